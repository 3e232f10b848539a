section EXC
variable {p : Program} {l : Launch} {e : Env} {R : Room} {s : State} {m : MethodId} {args : Array Value} {below : List Frame} {meth : Method} {c : Code} {H : Heap} {locs : List Loc} {cells slots : Nat} {Q : State → Prop}
/-- behind a call, whatever it answers -/
theorem ex_callk {pc : Nat} {ls : Array Slot} {rest st0 : List Value} {A0 A1 : Nat → Prop} {H0 : Heap} {mc ms : Nat} {free : Addr → Prop} {Qa : State → Outcome → State → Prop} (hr : va_Run p l e R s m args below meth c H locs cells slots mc ms (F0 m pc ls st0) rest Qa free) (hS : va_S A0 H0 H locs) (hA : ∀ q, q < H.size → A1 q → A0 q) (hf : ∀ q, free q → A0 q) (hQ : ∀ st oc t, Qa st oc t → va_F A1 st t)
    (kk : ∀ (vo : Option Value) (st₀ t : State) (locs1 : List Loc), st₀.heap = H → s.vm.Alike t.vm → Qa st₀ (.returned vo) t → va_S A0 H0 t.heap locs1 → W p l e R s m args below meth c t.heap locs1 (cells + mc) (slots + ms) Q (F0 m (pc + 3) ls (vo.toList ++ rest))) : W p l e R s m args below meth c H locs cells slots Q (F0 m pc ls st0) := by
  intro T hT X
  obtain ⟨v, st₀, t, T', L, h0, X', hL, e1, e2, hq, st⟩ := hr T hT X
  obtain ⟨hz, hk⟩ := hQ _ _ _ hq
  rw [h0] at hz hk
  obtain ⟨t2, a1, b1⟩ := kk v st₀ t (locs ++ L) h0 (by rw [← e2]; exact X'.warmed.alike) hq ⟨Nat.le_trans hS.1 hz, fun q h1 h2 => by rw [hk q (Nat.lt_of_lt_of_le h1 hS.1) (fun z => h2 (hA q (Nat.lt_of_lt_of_le h1 hS.1) z))]; exact hS.2.1 q h1 h2, fun q hq => by
    rcases List.mem_append.mp hq with h | h
    · exact hS.2.2 q h
    · exact hf _ (hL q h)⟩ T' e1 X'
  exact ⟨t2, st t2 a1, b1⟩
end EXC
theorem ex_good {ws : List Cond} (h : ∀ w ∈ ws, w ∈ ex_tb) : GoodIn ex_tb ws := fun w hw => ⟨h w hw, good_of_word (List.mem_filter.mp (h w hw)).2⟩
theorem ex_nest_warm {s U : State} (hW : s.WarmedH U.vm) (h : ∀ w ∈ ex_nest, va_Nw w s) : ∀ w ∈ ex_nest, va_Nw w U := by
  intro w hw
  have h1 := h w hw
  simp only [ex_nest, List.mem_cons, List.not_mem_nil, or_false] at hw
  rcases hw with rfl | rfl | rfl | rfl | rfl <;> exact va_Nw.warmM hW h1
theorem ex_nest_same {s U : State} (hW : s.vm = U.vm) (h : ∀ w ∈ ex_nest, va_Nw w s) : ∀ w ∈ ex_nest, va_Nw w U := by
  intro w hw
  have h1 := h w hw
  simp only [ex_nest, List.mem_cons, List.not_mem_nil, or_false] at hw
  rcases hw with rfl | rfl | rfl | rfl | rfl <;> exact va_Nw.same rfl hW h1
theorem ex_ck_ok {mi : Nat → Option ex_I} {own : String} {pc len a1 a2 a3 : Nat} {ins : Instr} {ts : List Nat} {I : ex_I} (hI : mi a1 = some I) (hck : ex_ck mi own (pc, ins, len, a1, a2, a3, ts) = true) : len = 3 ∧ ((∃ ix rc, ins = .invokevirtual ix ∧ Cond.methodLink own ix I.1 ∈ ex_tb ∧ I.2.2.2.1 = 0 ∧ a2 = I.2.2.2.2 + 1 ∧ vwCl[a3]? = some rc ∧ rc.1 = I.1.cls) ∨ (∃ ix, ins = .invokestatic ix ∧ Cond.methodLink own ix I.1 ∈ ex_tb ∧ I.2.2.2.1 = 1 ∧ a2 = I.2.2.2.2) ∨ (∃ ix, ins = .invokespecial ix ∧ I.2.2.2.1 = 2 ∧ a2 = I.2.2.2.2 + 1 ∧ (Cond.methodLink own ix I.1 ∈ ex_tb ∨ Cond.methodLinkNest own ix I.1 "HatchLights" ∈ ex_nest))) := by
  unfold ex_ck at hck
  obtain ⟨k0, k9⟩ := ex_and hck
  refine ⟨ex_beq k0, ?_⟩
  split at k9
  · rename_i I' wi ne hI'
    rw [hI] at hI'
    injection hI' with hI'
    subst hI'
    split at k9
    · rename_i ix
      obtain ⟨k9, k4⟩ := ex_and k9
      obtain ⟨k9, k3⟩ := ex_and k9
      obtain ⟨k1, k2⟩ := ex_and k9
      split at k4
      · rename_i rc hrc
        exact Or.inl ⟨ix, rc, rfl, ex_wd_ok k1, ex_beq k2, ex_beq k3, hrc, of_decide_eq_true k4⟩
      · cases k4
    · rename_i ix
      obtain ⟨k9, k3⟩ := ex_and k9
      obtain ⟨k1, k2⟩ := ex_and k9
      exact Or.inr (Or.inl ⟨ix, rfl, ex_wd_ok k1, ex_beq k2, ex_beq k3⟩)
    · rename_i ix
      obtain ⟨k9, k3⟩ := ex_and k9
      obtain ⟨k1, k2⟩ := ex_and k9
      refine Or.inr (Or.inr ⟨ix, rfl, ex_beq k1, ex_beq k2, ?_⟩)
      rcases ex_bif (P := fun z => z = true) k3 with ⟨z1, z2⟩ | ⟨z1, z2⟩
      · exact Or.inl (ex_wd_ok z2)
      · exact Or.inr (of_decide_eq_true z2)
    · cases k9
  · cases k9
set_option maxHeartbeats 4000000 in
set_option maxRecDepth 100000 in
theorem ex_run_ok {mt : Nat → Option ex_M} {mi : Nat → Option ex_I} {df : Nat → List ex_V} {L : Nat} {l : Launch} (hgw : ex_gw) (hgd : ex_gd df) (hmt : ∀ (j : Nat) (M : ex_M), mt j = some M → ∃ I, mi j = some I ∧ ex_MO mi M I) (f : Nat) : ex_Snd mt mi df L l f := by
  induction f with
  | zero =>
    intro stop d isl M en S o hr
    cases (show none = some o from hr)
  | succ f ih =>
    intro stop d isl M en S o hr0 own nm cd ret hPO p e R s m args below meth c Q D ρ b A w0 t0 X hG
    obtain ⟨sx, lv, st, h, n, k1, k2⟩ := S
    cases sx with
    | nil => cases (show none = some o from hr0)
    | cons q r =>
      refine ⟨List.cons_ne_nil _ _, ?_⟩
      have hr : (bif ex_end q || Nat.ble stop q.1 then some [(en, (q :: r, lv, st, h, n, k1, k2))] else
        bif ex_call q then ex_cl (ex_run mt df L f) mt stop d isl M en q r lv st h n k1 k2 else ex_sp (ex_run mt df L f) df L stop d isl M en q r lv st h n k1 k2) = some o := hr0
      clear hr0
      intro pc ls xs ws tys H locs hh0 hsub hR
      obtain ⟨q0, r0, e0, e1⟩ := hh0
      have e0 : q :: r = q0 :: r0 := e0
      injection e0 with e0 e2
      subst e0
      subst e1
      have hsub : ∀ x ∈ q :: r, x ∈ M.1 := hsub
      have hR : ex_Rl s D ρ b A M.2.1 w0 t0 en lv st h n ls xs ws tys H locs := hR
      show W p l e R s m args below meth c H locs k1 k2 Q (F0 m q.1 ls xs)
      obtain ⟨hdq, hqk⟩ := hPO q (hsub q List.mem_cons_self)
      rcases ex_bif (P := fun z => z = some o) hr with ⟨g1, g2⟩ | ⟨g1, g2⟩
      · injection g2 with g2
        subst g2
        exact hG _ (List.mem_singleton.mpr rfl) q.1 ls xs ws tys H locs ⟨q, r, rfl, rfl⟩ hsub hR
      · obtain ⟨g1e, -⟩ := Bool.or_eq_false_iff.mp g1
        have hqk : (bif ex_call q then ex_ck mi own q else ex_pk own nm q) = true := by
          unfold ex_qk at hqk
          rw [g1e] at hqk
          exact hqk
        rcases ex_bif (P := fun z => z = some o) g2 with ⟨g3, g4⟩ | ⟨g3, g4⟩
        · rw [g3] at hqk
          have hck : ex_ck mi own q = true := hqk
          unfold ex_cl at g4
          split at g4
          · cases g4
          · rename_i d'
            split at g4
            · cases g4
            · rename_i M' hM'
              obtain ⟨I, hI, hMO⟩ := hmt _ _ hM'
              split at g4
              · cases g4
              · rename_i ar har
                obtain ⟨as, rest⟩ := ar
                obtain ⟨g5, g6⟩ := ex_bifs g4
                obtain ⟨g5, c5⟩ := ex_and g5
                obtain ⟨g5, c4⟩ := ex_and g5
                obtain ⟨g5, c3⟩ := ex_and g5
                obtain ⟨c1, c2⟩ := ex_and g5
                have c1 : rest.length ≤ 4 := by have := ex_ble c1; rw [ex_len_eq] at this; exact this
                have c2 := ex_ble c2
                have c3 := ex_ble c3
                split at g6
                · cases g6
                · rename_i outs houts
                  split at g6
                  · cases g6
                  · rename_i la hla
                    split at g6
                    · cases g6
                    · rename_i lm hlm
                      obtain ⟨x1, x2, x3, x4, x5, x6, x7, x8, x9, x10, x11, x12, x13⟩ := id X
                      obtain ⟨va, xr, -, -, t1, t2, t3, t4, t5⟩ := ex_take_ok har (xa := []) (ρ := ρ) (b := b) (ws := ws) trivial (fun v hv => by cases hv) hR.sr
                      have hxs : xs = va.reverse ++ xr := t5
                      have t4 : va.length = q.2.2.2.2.1 := t4
                      obtain ⟨lw, hl1, hl2⟩ := hR.1
                      have hsum := ex_sum_le t2
                      obtain ⟨o1, o2, o3, o4, o5, ⟨o6a, o6b, o6c⟩, o7, o8, o9⟩ := id hMO
                      -- behind the call
                      have kk : ∀ (vo : Option Value) (st₀ t : State) (locs1 : List Loc), st₀.heap = H → s.vm.Alike t.vm → ex_Qc D ρ b ws tys H.size la va.toArray st₀ (.returned vo) t → va_S A s.heap t.heap locs1 → W p l e R s m args below meth c t.heap locs1 (k1 + M'.2.2.2.1) (k2 + M'.2.2.2.2) Q (F0 m (q.1 + 3) ls (vo.toList ++ xr)) := by
                        intro vo st₀ t locs1 hst0 hvm hq hS1
                        obtain ⟨⟨a, ha, vo', ws', tys', ho, f1, f2, f3, f4, f5, f6, f7, f8⟩, -⟩ := hq
                        injection ho with ho
                        subst ho
                        obtain ⟨mm, hmm, j1, j2, j3, j4⟩ := ex_mg_ok hlm ha
                        obtain ⟨ox, hox1, hox2⟩ := ex_all_ok g6 (ex_bk r lv rest (k1 + M'.2.2.2.1) (k2 + M'.2.2.2.2) mm) (by rw [ex_map_eq]; exact List.mem_map.mpr ⟨mm, hmm, rfl⟩)
                        have hG1 := (ih stop (d' + 1) isl M _ _ ox hox1 own nm cd ret hPO p e R s m args below meth c Q D ρ b A w0 t0 X (fun x hx => hG x (hox2 x hx))).2
                        cases r with
                        | nil => cases (show false = true from c4)
                        | cons q' r' =>
                          refine hG1 (q.1 + 3) ls (vo.toList ++ xr) ws' tys' t.heap locs1 ⟨q', r', rfl, ex_beq c4⟩ (fun x hx => hsub x (List.mem_cons_of_mem _ hx)) ⟨⟨lw, hl1, hl2.mono f7⟩, ?_, ?_, ?_, va_K.moved hvm.symm f5, f4, f6.weaken (fun k x hk hx => ?_), hS1, hR.2.2.2.2.2.2.2.2.1.tr f7, fun x hx => f8 x (hR.2.2.2.2.2.2.2.2.2 x hx)⟩
                          · intro i z hz
                            obtain ⟨z', z1, z2, z3⟩ := j1 i z hz
                            have := f1 i z' z1
                            omega
                          · show ex_sr ρ b ws' (ex_app mm.2.1 rest) (vo.toList ++ xr)
                            rw [ex_app_eq, ← j2]
                            exact ex_sr_app f2 (t2.mono f7)
                          · show ex_hr ρ b tys' ws' mm.2.2.1 mm.2.2.2
                            exact ⟨f3.1.trans j3, fun k cc hk => f3.2 k cc (j4 k cc hk)⟩
                          · rcases hx with ⟨k', ev, hk'⟩ | hx
                            · exact hR.hD.2 k' (x.1, ev) hk'
                            · exact x6 _ (Nat.le_trans hR.hS.1 hx)
                      have hFa : ∀ z, va_A ws H.size z → A z := fun z hz => by
                        rcases hz with ⟨k', ev, hk'⟩ | hz
                        · exact hR.hD.2 k' (z, ev) hk'
                        · exact x6 _ (Nat.le_trans hR.hS.1 hz)
                      have hQF : ∀ st oc t, ex_Qc D ρ b ws tys H.size la va.toArray st oc t → va_F (va_A ws H.size) st t := fun _ _ _ hq => hq.2
                      have hfin : va.length ≤ M'.2.1 → ∀ rr, va_Run p l e R s m args below meth c H locs k1 k2 M'.2.2.2.1 M'.2.2.2.2 (F0 m q.1 ls xs) xr (ex_Qc D ρ b ws tys H.size la va.toArray) rr → (∀ z, rr z → A z) → W p l e R s m args below meth c H locs k1 k2 Q (F0 m q.1 ls xs) := fun _ rr hrun hrr => ex_callk hrun hR.hS (fun z _ hz => hFa z hz) hrr hQF kk
                      have hblind : FrameBlind (va_Pc va (ex_Pc D ws tys H.size)) := fun a U g mk qq => by
                        obtain ⟨q0, q1, qP, qK, qD, qN, qA⟩ := qq
                        exact ⟨q0, q1, qP, va_K.moved (u := U) (U := U.calling g mk a) (Vm.Alike.refl U.vm) qK, qD, ex_nest_same (s := U) (U := U.calling g mk a) rfl qN, va_AO.moved (U := U.calling g mk a) (Vm.Alike.refl U.vm) qA⟩
                      have hpre : ∀ U : State, U.heap = H → s.WarmedH U.vm → va_Pc va (ex_Pc D ws tys H.size) va.toArray U := fun U hU hW => ⟨rfl, by rw [hU], by rw [hU]; exact hR.hP, va_K.moved hW.alike hR.hK, hR.hD.weaken (fun _ _ _ _ => trivial), ex_nest_warm hW x7, va_AO.moved hW.alike x8⟩
                      have hroom : ({ frames := d' + 1, cells := M'.2.2.2.1, slots := M'.2.2.2.2, locals := 60 * (d' + 1) } : Room).frames + 1 ≤ R.frames ∧ 8 + (M'.2.1 + 11) + ({ frames := d' + 1, cells := M'.2.2.2.1, slots := M'.2.2.2.2, locals := 60 * (d' + 1) } : Room).locals ≤ R.locals := ⟨x12, by
                        show 8 + (M'.2.1 + 11) + 60 * (d' + 1) ≤ R.locals
                        omega⟩
                      have hcap : k1 + M'.2.2.2.1 ≤ R.cells ∧ k2 + M'.2.2.2.2 ≤ R.slots := ⟨Nat.le_trans c2 x11.1, Nat.le_trans c3 x11.2⟩
                      have hsub8 : 2 * (F0 m q.1 ls xs).monitorRoom + (xr.map fun v => v.category).sum ≤ 8 := lv_room (st := xr) (by omega)
                      have hcode : ∀ w ∈ (Cond.code I.1 I.2.1 M'.2.1 I.2.2.1 :: ex_tb), w ∈ ex_tb := fun w hw => by
                        rcases List.mem_cons.mp hw with rfl | hw
                        · exact o2
                        · exact hw
                      have fix : CallFix p m c cd M.2.1 s args ex_tb own := ⟨x1, x2, x3, x4, x5⟩
                      obtain ⟨pc, ins, len, a1, a2, a3, ts⟩ := q
                      obtain ⟨hlen3, hcs⟩ := ex_ck_ok hI hck
                      subst hlen3
                      rcases hcs with ⟨ix, rc, rfl, k1', k2', k3, hrc, k4⟩ | ⟨ix, rfl, k1', k2', k3⟩ | ⟨ix, rfl, k2', k3, k1'⟩
                      · match as, va, t1, t3, c5, t4, hxs, hfin, hblind, hpre, houts with
                        | .inr (.inl (some ob)) :: as', va, t1, t3, c5, t4, hxs, hfin, hblind, hpre, houts =>
                          obtain ⟨x, va', rfl, hv, hr'⟩ := ex_sr_cons t1
                          obtain ⟨a, ev, hw, rfl⟩ := hv
                          unfold ex_rcv at c5
                          dsimp only at c5
                          split at c5
                          · rename_i oc hoc
                            have c5 := ex_beq c5
                            obtain ⟨a', vs, y1, y2, y3⟩ := hR.hr.obj hoc
                            have ea := ex_at hw y1
                            subst ea
                            rw [c5] at y1
                            have t4 : va'.length + 1 = a2 := t4
                            have hlv : (Value.ref a :: va').length ≤ M'.2.1 := by
                              show va'.length + 1 ≤ _
                              rcases o7 with z | z <;> omega
                            have hM := ex_met ih hMO houts hla (D := D) (sz := H.size) hR.er t1 t3 hlv hR.hr
                            refine hfin hlv _ (va_runV (As := va') (b := a) (C := I.1.cls) fix hM (cwV I.2.2.2.2 x5 (ex_good (fun w hw => ?_)) rfl rfl rfl ⟨rfl, o5⟩ hroom) ⟨hblind, ?_, hpre⟩ rfl ?_ hl1.1 ?_ hsub8 hdq hcap) hFa
                            · simp only [wsV, List.mem_append, List.mem_cons, List.not_mem_nil, or_false] at hw
                              rcases hw with (rfl | rfl | rfl | rfl) | rfl | hw
                              · exact k1'
                              · exact (o6a k2').1
                              · exact (o6a k2').2
                              · exact o4
                              · exact o2
                              · exact hw
                            · rw [← k4]
                              exact va_recv hR.hK hR.hP hrc y1
                            · show va'.length = I.2.2.2.2
                              omega
                            · show xs = va'.reverse ++ .ref a :: xr
                              rw [hxs, List.reverse_cons, List.append_assoc]
                              rfl
                          · cases c5
                        | [], va, t1, t3, c5, t4, hxs, hfin, hblind, hpre, houts => cases c5
                        | .inl _ :: _, va, t1, t3, c5, t4, hxs, hfin, hblind, hpre, houts => cases c5
                        | .inr (.inl none) :: _, va, t1, t3, c5, t4, hxs, hfin, hblind, hpre, houts => cases c5
                        | .inr (.inr _) :: _, va, t1, t3, c5, t4, hxs, hfin, hblind, hpre, houts => cases c5
                      · have t4 : va.length = a2 := t4
                        have hlv : va.length ≤ M'.2.1 := by rcases o7 with z | z <;> omega
                        have hM := ex_met ih hMO houts hla (D := D) (sz := H.size) hR.er t1 t3 hlv hR.hr
                        refine hfin hlv _ (va_runS (As := va) fix hM (va_cwS I.2.2.2.2 x5 (ex_good (fun w hw => ?_)) rfl rfl rfl o5 hroom) ⟨hblind, hpre⟩ rfl (by omega) hl1.1 hxs hsub8 hdq hcap) hFa
                        simp only [va_wsS, List.mem_append, List.mem_cons, List.not_mem_nil, or_false] at hw
                        rcases hw with (rfl | rfl | rfl) | rfl | hw
                        · exact k1'
                        · exact o6b k2'
                        · exact o4
                        · exact o2
                        · exact hw
                      · obtain ⟨z1, z2, z3⟩ := o6c k2'
                        match as, va, t1, t3, c5, t4, hxs, hfin, hblind, hpre, houts with
                        | .inr (.inl (some ob)) :: as', va, t1, t3, c5, t4, hxs, hfin, hblind, hpre, houts =>
                          obtain ⟨x, va', rfl, hv, hr'⟩ := ex_sr_cons t1
                          obtain ⟨a, ev, hw, rfl⟩ := hv
                          have t4 : va'.length + 1 = a2 := t4
                          have hlv : (Value.ref a :: va').length ≤ M'.2.1 := by
                            show va'.length + 1 ≤ _
                            rcases o7 with z | z <;> omega
                          have hM := ex_met ih hMO houts hla (D := D) (sz := H.size) hR.er t1 t3 hlv hR.hr
                          have hcode' := hcode
                          rw [z3] at hM hcode'
                          have hstk : (F0 m pc ls xs).stack = va'.reverse ++ .ref a :: xr := by
                            show xs = va'.reverse ++ .ref a :: xr
                            rw [hxs, List.reverse_cons, List.append_assoc]
                            rfl
                          rcases k1' with k1' | k1'
                          · exact hfin hlv _ (va_runI (As := va') (b := a) fix hM (cwI I.2.2.2.2 x5 (ex_good hcode') rfl rfl rfl (x5 _ o4) (x5 _ k1') (x5 _ z2) z1 o5 hroom) ⟨hblind, hpre⟩ rfl (by omega) hl1.1 hstk hsub8 hdq hcap) hFa
                          · exact hfin hlv _ (va_runIN (As := va') (b := a) fix hM ⟨va_cnB I.2.2.2.2 x5 (ex_good hcode') rfl rfl rfl (x7 _ k1') (x5 _ o4) o5 hroom, z1, x5 _ z2⟩ ⟨hblind, hpre⟩ rfl (by omega) hl1.1 hstk hsub8 hdq hcap) hFa
                        | [], va, t1, t3, c5, t4, hxs, hfin, hblind, hpre, houts => cases c5
                        | .inl _ :: _, va, t1, t3, c5, t4, hxs, hfin, hblind, hpre, houts => cases c5
                        | .inr (.inl none) :: _, va, t1, t3, c5, t4, hxs, hfin, hblind, hpre, houts => cases c5
                        | .inr (.inr _) :: _, va, t1, t3, c5, t4, hxs, hfin, hblind, hpre, houts => cases c5
        · rw [g3] at hqk
          unfold ex_sp at g4
          split at g4
          · cases g4
          · rename_i lx hlx
            rw [ex_step2_eq] at hlx
            exact ex_step_ok hgw hgd X hqk hdq hlx (fun x hx => by
              obtain ⟨ox, h1, h2⟩ := ex_all_ok g4 x hx
              exact ih stop d isl M _ _ ox h1 own nm cd ret hPO p e R s m args below meth c Q D ρ b A w0 t0 X (fun y hy => hG y (h2 y hy))) hsub hR
