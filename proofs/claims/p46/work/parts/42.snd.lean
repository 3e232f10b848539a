/-! the run gives what it says -/
theorem ty_ct_lt {k : Nat} {oc : Nat × List ty_F} (h : ex_nth ty_ct k = some (.inl oc)) : oc.1 < 20 := by
  rw [ex_nth_get] at h
  have : ∀ x ∈ ty_ct, (match x with
    | .inl o => Nat.blt o.1 20
    | .inr _ => true) = true := ty_every_t (by decide +kernel)
  exact Nat.le_of_ble_eq_true (this _ (List.mem_of_getElem? h))
section TYC
variable {p : Program} {l : Launch} {en : Env} {R : Room} {s : State} {m : MethodId} {args : Array Value} {below : List Frame} {meth : Method} {c : Code} {k1 k2 : Nat} {Q : State → Prop} {D : va_G} {b : Nat} {sa : Nat → Nat} {A : Nat → Prop} {mL nr : Nat} {ρ0 ρ : Nat → Int} {w0 : va_W} {tys : List (ClassId × FieldType)} {ms : ty_M} {pr : List ex_P}
variable {e : ty_E} {lv : ty_L} {st : List ty_V} {K : ty_K} {ls : Array Slot} {xs : List Value} {ws : va_W} {H : Heap} {locs : List Loc} {q : ex_P} {r : List ex_P} {o : List (ty_E × ty_S)}
variable {σ : Nat → Int32} {L d : Nat} {own nm : String} {cd : ByteArray} {cap : Nat × Nat} {isl : Bool} {mi : Nat → Option ex_I}
set_option maxHeartbeats 4000000 in
set_option maxRecDepth 100000 in
/-- a call, whatever is known of the one who is called -/
theorem ty_call_ok (X : ex_X p R s m args meth c σ b L A own nm cd mL (d + 1) cap isl) (Z : ty_Z sa A s) (hkc : k1 ≤ R.cells ∧ k2 ≤ R.slots) {I : ex_I} {nL d' : Nat} (hI : mi q.2.2.2.1 = some I) (hMS : ty_MS I nL) (hd : d' ≤ d) (hck : ty_ck mi own q = true) (hdq : decode cd q.1 = .ok (q.2.1, q.2.2.1)) {as rest : List ty_V} (har : ty_take q.2.2.2.2.1 [] st = some (as, rest)) (c1 : ty_csum rest ≤ 8) (c4 : ex_nx3 q r = true) (c5 : ty_rcv q as = true)
    {Qa : Array Value → State → Outcome → State → Prop} (hM : ∀ va, ty_sr b sa e.1 ρ ws as va → Met l I.1 (Cond.code I.1 I.2.1 nL I.2.2.1 :: ex_tb) (ty_Rm d') (va_Pc va (ty_Pc D sa ws tys H.size)) Qa 0 0 (va_A ws H.size)) {la : List ty_A} (hQ : ∀ v st oc t, Qa v st oc t → (∃ a ∈ la, ty_An D b sa ρ e.1 ms ws tys (va_A ws H.size) a oc t) ∧ va_F (va_A ws H.size) st t)
    (hG : ∀ a ∈ la, ty_G p l en R s m args below meth c k1 k2 Q D b sa A mL nr ρ0 w0 tys ms pr a.1 (r, lv, ex_app a.2.1 rest, a.2.2)) (hsub : ∀ x ∈ q :: r, x ∈ pr) (ha : ty_ag nr ρ0 ρ) (hR : ty_Rl s D b sa A mL nr w0 tys ms ρ e lv st K ls xs ws H locs) : W p l en R s m args below meth c H locs k1 k2 Q (F0 m q.1 ls xs) := by
  obtain ⟨x1, x2, x3, x4, x5, x6, x7, x8, x9, x10, x11, x12, x13⟩ := id X
  obtain ⟨va, xr, t1, t2, t4, t5⟩ := ty_take_ok har (xa := []) (ρ := ρ) (b := b) (sa := sa) (ws := ws) trivial hR.sr
  have hxs : xs = va.reverse ++ xr := t5
  have t4 : va.length = q.2.2.2.2.1 := t4
  obtain ⟨lw, hl1, hl2⟩ := hR.1
  have hsum := ty_csum_ok t2
  have hM := hM va t1
  obtain ⟨o1, o2, o3, o4, o5, o6a, o6b⟩ := id hMS
  have kk : ∀ (vo : Option Value) (st₀ t : State) (locs1 : List Loc), st₀.heap = H → s.vm.Alike t.vm → Qa va.toArray st₀ (.returned vo) t → va_S A s.heap t.heap locs1 → W p l en R s m args below meth c t.heap locs1 (k1 + 0) (k2 + 0) Q (F0 m (q.1 + 3) ls (vo.toList ++ xr)) := by
    intro vo st₀ t locs1 hst0 hvm hq hS1
    obtain ⟨⟨a, ha1, ρ', vo', ws', ho, f1, f2, f3, f4, f5, f6, f7, f8, f9, f10, f11⟩, -⟩ := hQ _ _ _ _ hq
    injection ho with ho
    subst ho
    have hG1 := hG a ha1
    cases r with
    | nil => cases (show false = true from c4)
    | cons q' r' =>
      refine hG1 ρ' (ha.tr f1 hR.nle) (q.1 + 3) ls (vo.toList ++ xr) ws' t.heap locs1 ⟨q', r', rfl, ex_beq c4⟩ (fun x hx => hsub x (List.mem_cons_of_mem _ hx)) ⟨⟨lw, hl1, hl2.mono f1 f2 f11⟩, f3, ?_, f5, f6, hR.fr.trans f7, Nat.le_trans hR.nle f2, va_K.moved hvm.symm f9, f8, f10.weaken (fun k x hk hx => ?_), hS1, hR.xt.tr f11⟩
      · show ty_sr b sa a.1.1 ρ' ws' (ex_app a.2.1 rest) (vo.toList ++ xr)
        rw [ex_app_eq]
        exact ty_sr_app f4 (t2.mono f1 f2 f11)
      · rcases hx with ⟨k', ev, hk'⟩ | hx
        · exact hR.hD.2 k' (x.1, ev) hk'
        · exact x6 _ (Nat.le_trans hR.hS.1 hx)
  have hFa : ∀ z, va_A ws H.size z → A z := fun z hz => by
    rcases hz with ⟨k', ev, hk'⟩ | hz
    · exact hR.hD.2 k' (z, ev) hk'
    · exact x6 _ (Nat.le_trans hR.hS.1 hz)
  have hQF : ∀ st oc t, Qa va.toArray st oc t → va_F (va_A ws H.size) st t := fun _ _ _ hq => (hQ _ _ _ _ hq).2
  have hfin : ∀ rr, va_Run p l en R s m args below meth c H locs k1 k2 0 0 (F0 m q.1 ls xs) xr (Qa va.toArray) rr → (∀ z, rr z → A z) → W p l en R s m args below meth c H locs k1 k2 Q (F0 m q.1 ls xs) := fun rr hrun hrr => ex_callk hrun hR.hS (fun z _ hz => hFa z hz) hrr hQF kk
  have hblind : FrameBlind (va_Pc va (ty_Pc D sa ws tys H.size)) := fun a U g mk qq => by
    obtain ⟨q0, ⟨q1, qP, qK, qD, qN, qA⟩, qZ⟩ := qq
    exact ⟨q0, ⟨q1, qP, va_K.moved (u := U) (U := U.calling g mk a) (Vm.Alike.refl U.vm) qK, qD, ex_nest_same (s := U) (U := U.calling g mk a) rfl qN, va_AO.moved (U := U.calling g mk a) (Vm.Alike.refl U.vm) qA⟩, qZ.same (U := U.calling g mk a) rfl rfl⟩
  have hpre : ∀ U : State, U.heap = H → s.WarmedH U.vm → va_Pc va (ty_Pc D sa ws tys H.size) va.toArray U := fun U hU hW => ⟨rfl, ⟨by rw [hU], by rw [hU]; exact hR.hP, va_K.moved hW.alike hR.hK, hR.hD.weaken (fun _ _ _ _ => trivial), ex_nest_warm hW x7, va_AO.moved hW.alike x8⟩, Z.go hW hU hR.hS hFa⟩
  have hroom : (ty_Rm d').frames + 1 ≤ R.frames ∧ 8 + (nL + 11) + (ty_Rm d').locals ≤ R.locals := ⟨by show d' + 1 + 1 ≤ R.frames; omega, by
    show 8 + (nL + 11) + 60 * (d' + 1) ≤ R.locals
    omega⟩
  have hcap : k1 + 0 ≤ R.cells ∧ k2 + 0 ≤ R.slots := hkc
  have hsub8 : 2 * (F0 m q.1 ls xs).monitorRoom + (xr.map fun v => v.category).sum ≤ 8 := lv_room (st := xr) (by omega)
  have fix : CallFix p m c cd mL s args ex_tb own := ⟨x1, x2, x3, x4, x5⟩
  rcases ty_ck_ok hI hck with ⟨e99, hlen3, ix, hins, k1', k2', k3, k4⟩ | ⟨e99, hck⟩
  · obtain ⟨pc, ins, len, a1, a2, a3, ts⟩ := q
    have hins : ins = .invokevirtual ix := hins
    subst hins
    have hlen3 : len = 3 := hlen3
    subst hlen3
    obtain ⟨⟨byt, z1⟩, -⟩ := Z
    match as, va, t1, c5, t4, hxs, hM, hfin, hblind, hpre with
    | .inr (.inr (.inr (.inl n))) :: as', va, t1, c5, t4, hxs, hM, hfin, hblind, hpre =>
      obtain ⟨x, va', rfl, hv, hr'⟩ := ty_sr_cons t1
      obtain ⟨-, c5⟩ := ex_and (show (Nat.beq a3 99 && Nat.blt n 2) = true from c5)
      have c5 : n < 2 := Nat.le_of_ble_eq_true c5
      have hv := hv.1 (by omega)
      subst hv
      have t4 : va'.length + 1 = a2 := t4
      have k3 : a2 = I.2.2.2.2 + 1 := k3
      refine hfin _ (va_runV (As := va') (b := sa n) (C := I.1.cls) fix hM (cwV I.2.2.2.2 x5 (ex_good (fun w hw => ?_)) rfl rfl rfl ⟨rfl, o5⟩ hroom) ⟨hblind, ?_, hpre⟩ rfl ?_ hl1.1 ?_ hsub8 hdq hcap) hFa
      · simp only [wsV, List.mem_append, List.mem_cons, List.not_mem_nil, or_false] at hw
        rcases hw with (rfl | rfl | rfl | rfl) | rfl | hw
        · exact k1'
        · exact (o6a k2').1
        · exact (o6a k2').2
        · exact o4
        · exact o2
        · exact hw
      · rw [k4]
        exact vk_recv z1 c5 hR.hS
      · show va'.length = I.2.2.2.2
        omega
      · show xs = va'.reverse ++ .ref (sa n) :: xr
        rw [hxs, List.reverse_cons, List.append_assoc]
        rfl
    | [], va, t1, c5, t4, hxs, hM, hfin, hblind, hpre => cases c5
    | .inl _ :: _, va, t1, c5, t4, hxs, hM, hfin, hblind, hpre => cases c5
    | .inr (.inl ob) :: _, va, t1, c5, t4, hxs, hM, hfin, hblind, hpre =>
      exfalso
      unfold ty_rcv at c5
      dsimp only at c5
      split at c5
      · rename_i oc hoc
        have c5 : oc.1 = a3 := ex_beq c5
        have e99 : a3 = 99 := e99
        exact absurd (ty_ct_lt hoc) (by omega)
      · cases c5
    | .inr (.inr (.inl _)) :: _, va, t1, c5, t4, hxs, hM, hfin, hblind, hpre => cases c5
    | .inr (.inr (.inr (.inr _))) :: _, va, t1, c5, t4, hxs, hM, hfin, hblind, hpre => cases c5
  obtain ⟨pc, ins, len, a1, a2, a3, ts⟩ := q
  obtain ⟨hlen3, hcs⟩ := ex_ck_ok hI hck
  subst hlen3
  rcases hcs with ⟨ix, rc, rfl, k1', k2', k3, hrc, k4⟩ | ⟨ix, rfl, k1', k2', k3⟩ | ⟨ix, rfl, k2', k3, k1'⟩
  · match as, va, t1, c5, t4, hxs, hM, hfin, hblind, hpre with
    | .inr (.inl ob) :: as', va, t1, c5, t4, hxs, hM, hfin, hblind, hpre =>
      obtain ⟨x, va', rfl, hv, hr'⟩ := ty_sr_cons t1
      obtain ⟨j, a, ev, hj, hkl, hw, rfl⟩ := hv
      unfold ty_rcv at c5
      dsimp only at c5
      split at c5
      · rename_i oc hoc
        have c5 := ex_beq c5
        obtain ⟨-, vs, rfl, -⟩ := hR.th.obj hkl hw (ci := oc.1) (fs := oc.2) hoc
        rw [c5] at hw
        have t4 : va'.length + 1 = a2 := t4
        refine hfin _ (va_runV (As := va') (b := a) (C := I.1.cls) fix hM (cwV I.2.2.2.2 x5 (ex_good (fun w hw => ?_)) rfl rfl rfl ⟨rfl, o5⟩ hroom) ⟨hblind, ?_, hpre⟩ rfl ?_ hl1.1 ?_ hsub8 hdq hcap) hFa
        · simp only [wsV, List.mem_append, List.mem_cons, List.not_mem_nil, or_false] at hw
          rcases hw with (rfl | rfl | rfl | rfl) | rfl | hw
          · exact k1'
          · exact (o6a k2').1
          · exact (o6a k2').2
          · exact o4
          · exact o2
          · exact hw
        · rw [← k4]
          exact va_recv hR.hK hR.hP hrc hw
        · show va'.length = I.2.2.2.2
          omega
        · show xs = va'.reverse ++ .ref a :: xr
          rw [hxs, List.reverse_cons, List.append_assoc]
          rfl
      · cases c5
    | [], va, t1, c5, t4, hxs, hM, hfin, hblind, hpre => cases c5
    | .inl _ :: _, va, t1, c5, t4, hxs, hM, hfin, hblind, hpre => cases c5
    | .inr (.inr (.inl _)) :: _, va, t1, c5, t4, hxs, hM, hfin, hblind, hpre => cases c5
    | .inr (.inr (.inr (.inl n))) :: _, va, t1, c5, t4, hxs, hM, hfin, hblind, hpre =>
      obtain ⟨c5, -⟩ := ex_and (show (Nat.beq a3 99 && Nat.blt n 2) = true from c5)
      exact absurd (ex_beq c5) e99
    | .inr (.inr (.inr (.inr _))) :: _, va, t1, c5, t4, hxs, hM, hfin, hblind, hpre => cases c5
  · have t4 : va.length = a2 := t4
    refine hfin _ (va_runS (As := va) fix hM (va_cwS I.2.2.2.2 x5 (ex_good (fun w hw => ?_)) rfl rfl rfl o5 hroom) ⟨hblind, hpre⟩ rfl (by omega) hl1.1 hxs hsub8 hdq hcap) hFa
    simp only [va_wsS, List.mem_append, List.mem_cons, List.not_mem_nil, or_false] at hw
    rcases hw with (rfl | rfl | rfl) | rfl | hw
    · exact k1'
    · exact o6b k2'
    · exact o4
    · exact o2
    · exact hw
  · cases c5
end TYC
theorem ty_met_mono {l : Launch} {y : MethodName} {wt : List Cond} {rm : Room} {Pc : Array Value → State → Prop} {Qc Qd : Array Value → State → Outcome → State → Prop} {mc ms : Nat} {free : Addr → Prop} (hM : Met l y wt rm Pc Qc mc ms free) (h : ∀ a st o t, Qc a st o t → Qd a st o t) : Met l y wt rm Pc Qd mc ms free := fun p e h1 h2 h3 s m args below h4 h5 h6 h7 => by
  obtain ⟨n, o, g1, g2, g3, g4, g5⟩ := hM p e h1 h2 h3 s m args below h4 h5 h6 h7
  exact ⟨n, o, g1, g2, g3, h _ _ _ _ g4, g5⟩
theorem ty_str_nc {q : ex_P} {st : List ty_V} (h : ty_str q st = true) : ty_call q = false := by
  obtain ⟨pc, ins, len, a1, a2, a3, ts⟩ := q
  unfold ty_str at h
  dsimp only at h
  split at h
  · rfl
  · rfl
  · rfl
  · rfl
  · rfl
  · cases h
def ty_Snd (mt : Nat → Option ex_M) (mi : Nat → Option ex_I) (cn : List ty_Con) (l : Launch) (f : Nat) : Prop := ∀ (first : Bool) (cuts : List Nat) (d : Nat) (isl : Bool) (M : ex_M) (ms : ty_M) (e : ty_E) (S : ty_S) (o : List (ty_E × ty_S)), ty_run mt cn f first cuts d isl M ms e S = some o → ∀ (own nm : String) (cd : ByteArray) (ret : Option FieldType), ty_PO mi own nm cd M.2.2.1 ret M.1 → ∀ (p : Program) (en : Env) (R : Room) (s : State) (m : MethodId) (args : Array Value) (below : List Frame) (meth : Method) (c : Code) (Q : State → Prop) (D : va_G) (σ : Nat → Int32) (b : Nat) (sa : Nat → Nat) (L : Nat) (A : Nat → Prop) (nr : Nat) (ρ0 : Nat → Int) (w0 : va_W) (tys : List (ClassId × FieldType)) (cap : Nat × Nat) (k1 k2 : Nat), k1 ≤ R.cells ∧ k2 ≤ R.slots → ex_X p R s m args meth c σ b L A own nm cd M.2.1 d cap isl → ty_Z sa A s → (isl = true → (ρ0 0 = (L : Int) ∧ 0 < nr ∧ L < 2147483648) ∧ ∀ i : Nat, ((sa (1000 + i) : Nat) : Int) - 2147483648 = (σ i).toInt) → (∀ x ∈ o, ty_G p l en R s m args below meth c k1 k2 Q D b sa A M.2.1 nr ρ0 w0 tys ms M.1 x.1 x.2) → S.1 ≠ [] ∧ ty_G p l en R s m args below meth c k1 k2 Q D b sa A M.2.1 nr ρ0 w0 tys ms M.1 e S
theorem ty_ret1_cs {z : Nat} {e : ty_E} {K : ty_K} {ins : Instr} {st : List ty_V} {a : ty_A} (h : ty_ret1 z e K ins st = some a) : (∃ t, ins = .ireturn ∧ st = [ty_i t] ∧ ty_zok e z t = true ∧ a = (e, st, K)) ∨ (∃ v, ins = .areturn ∧ st = [v] ∧ ty_isR v = true ∧ a = (e, st, K)) ∨ (ins = .return_ ∧ st = [] ∧ a = (e, st, K)) ∨ (∃ t, ins = .lreturn ∧ st = [ty_j t] ∧ a = (e, st, K)) := by
  unfold ty_ret1 at h
  split at h
  · obtain ⟨g1, g2⟩ := ex_bifs h
    injection g2 with g2
    exact Or.inl ⟨_, rfl, rfl, g1, g2.symm⟩
  · obtain ⟨g1, g2⟩ := ex_bifs h
    injection g2 with g2
    exact Or.inr (Or.inl ⟨_, rfl, rfl, g1, g2.symm⟩)
  · injection h with g2
    exact Or.inr (Or.inr (Or.inr ⟨_, rfl, rfl, g2.symm⟩))
  · injection h with g2
    exact Or.inr (Or.inr (Or.inl ⟨rfl, rfl, g2.symm⟩))
  · cases h
section TYD
variable {l : Launch} {mi : Nat → Option ex_I} {D : va_G} {b : Nat} {sa : Nat → Nat} {tys : List (ClassId × FieldType)}
set_option maxHeartbeats 4000000 in
/-- a return -/
theorem ty_ret_ok {M : ex_M} {I : ex_I} {d nr : Nat} {ρ0 : Nat → Int} {va : List Value} {ws0 : va_W} {ms : ty_M} {p : Program} {en : Env} {s : State} {m : MethodId} {below : List Frame} {meth : Method} {c : Code} {Qa : Array Value → State → Outcome → State → Prop} {A : Nat → Prop}
    (hx1 : p.tables.exec = Jvm.exec) (hx2 : c.code = I.2.1) (hret : meth.sig.returnType = I.2.2.1) (hlk : meth.locks = false) (hPO : ty_PO mi I.1.cls I.1.name I.2.1 M.2.2.1 I.2.2.1 M.1) {x : ty_E × ty_S} {a : ty_A} (hra : ty_ret M.2.2.1 x = some a)
    (hQ : ∀ oc t, ty_An D b sa ρ0 nr ms ws0 tys A a oc t → va_F A s t → Qa va.toArray s oc t) : ty_G p l en (headSpec (Cond.code I.1 I.2.1 M.2.1 I.2.2.1 :: ex_tb) (ty_Rm d)).room s m va.toArray below meth c 0 0 (MQ below Qa va.toArray s 0 0 A) D b sa A M.2.1 nr ρ0 ws0 tys ms M.1 x.1 x.2 := by
  intro ρ ha pc ls xs ws H locs hh0 hsub hR
  obtain ⟨q, r, e0, e1⟩ := hh0
  obtain ⟨e', sx, lv, st, K'⟩ := x
  have e0 : sx = q :: r := e0
  subst e0
  subst e1
  have hra : ty_ret1 M.2.2.1 e' K' q.2.1 st = some a := hra
  have hR : ty_Rl s D b sa A M.2.1 nr ws0 tys ms ρ e' lv st K' ls xs ws H locs := hR
  obtain ⟨hdq, hqk⟩ := hPO q (hsub q List.mem_cons_self)
  obtain ⟨pc, ins, len, a1, a2, a3, ts⟩ := q
  have mk : ∀ (vo : Option Value) (t : State), ty_sr b sa e'.1 ρ ws st vo.toList → t.heap = H → s.vm.Alike t.vm → Qa va.toArray s (.returned vo) t ∨ a ≠ (e', st, K') := fun vo t hv ht hW => by
    by_cases hae : a = (e', st, K')
    · subst hae
      exact Or.inl (hQ _ t ⟨ρ, vo, ws, rfl, ha, hR.nle, hR.er, hv, hR.Kr, hR.th, hR.fr, by rw [ht]; exact hR.hP, va_K.moved hW hR.hK, hR.hD, hR.xt⟩ (hR.hS.F ht))
    · exact Or.inr hae
  rcases ty_ret1_cs hra with ⟨t, hins, rfl, g4, rfl⟩ | ⟨v, hins, rfl, g4, rfl⟩ | ⟨hins, rfl, rfl⟩ | ⟨t, hins, rfl, rfl⟩
  · have hins : ins = .ireturn := hins
    subst hins
    obtain ⟨x, xr, rfl, hv, hr'⟩ := ty_sr_cons hR.sr
    obtain ⟨y, rfl, hy⟩ := hv
    have hxr := ty_sr_nil hr'
    subst hxr
    have hek : ty_ek M.2.2.1 I.2.2.1 (pc, .ireturn, len, a1, a2, a3, ts) = true := hqk
    have fin : ∀ ty : FieldType, I.2.2.1 = some ty → narrow ty (.int y) = .int y → len = 1 → W p l en (headSpec (Cond.code I.1 I.2.1 M.2.1 I.2.2.1 :: ex_tb) (ty_Rm d)).room s m va.toArray below meth c H locs 0 0 (MQ below Qa va.toArray s 0 0 A) (F0 m pc ls [.int y]) := fun ty hty hnar hl => by
      subst hl
      exact W.zret (ty := ty) hx1 hx2 (hret.trans hty) hnar (fun t ht hW => (mk (some (.int y)) t ⟨⟨y, rfl, hy⟩, trivial⟩ ht hW.alike).resolve_right (fun z => z rfl)) hR.hS.2.2 hdq (hlocks := hlk)
    cases hrt : I.2.2.1 with
    | none => rw [hrt] at hek; cases (show false = true from hek)
    | some ty =>
      rw [hrt] at hek
      cases ty with
      | int => exact fin .int hrt rfl (ex_beq hek)
      | boolean =>
        obtain ⟨z1, z2⟩ := ex_and (show (Nat.beq len 1 && Nat.beq M.2.2.1 1) = true from hek)
        refine fin .boolean hrt ?_ (ex_beq z1)
        unfold ty_zok at g4
        rw [z2] at g4
        have g4 := ty_in_ok hR.er (show ty_in e' t 0 1 = true from g4)
        rw [hy.2] at g4
        rcases ty_01 g4.1 g4.2 with rfl | rfl <;> rfl
      | char =>
        obtain ⟨z1, z2⟩ := ex_and (show (Nat.beq len 1 && Nat.beq M.2.2.1 2) = true from hek)
        refine fin .char hrt ?_ (ex_beq z1)
        unfold ty_zok at g4
        rw [ex_beq z2] at g4
        have g4 := ty_in_ok hR.er (show ty_in e' t 0 65535 = true from g4)
        rw [hy.2] at g4
        show Value.int (y.toUInt32 % 65536).toInt32 = Value.int y
        rw [(ty_c16 y).2.2 g4.1 g4.2]
      | byte =>
        obtain ⟨z1, z2⟩ := ex_and (show (Nat.beq len 1 && Nat.beq M.2.2.1 3) = true from hek)
        refine fin .byte hrt ?_ (ex_beq z1)
        unfold ty_zok at g4
        rw [ex_beq z2] at g4
        have g4 := ty_in_ok hR.er (show ty_in e' t (-128) 127 = true from g4)
        rw [hy.2] at g4
        show Value.int y.toInt8.toInt32 = Value.int y
        rw [(ty_b8 y).2.2 g4.1 g4.2]
      | _ => cases (show false = true from hek)
  · have hins : ins = .areturn := hins
    subst hins
    obtain ⟨x, xr, rfl, hv, hr'⟩ := ty_sr_cons hR.sr
    have hxr := ty_sr_nil hr'
    subst hxr
    have hek : ex_ek M.2.2.1 I.2.2.1 (pc, .areturn, len, a1, a2, a3, ts) = true := hqk
    cases hrt : I.2.2.1 with
    | none => rw [hrt] at hek; cases (show false = true from hek)
    | some ty =>
      rw [hrt] at hek
      cases ty with
      | object C =>
        have hl : len = 1 := ex_beq hek
        subst hl
        exact W.aret (rt := .object C) hx1 hx2 (hret.trans hrt) (Or.inl ⟨C, rfl⟩) (Or.inr (ty_isR_ok hv g4)) (fun t ht hW => (mk (some x) t ⟨hv, trivial⟩ ht hW.alike).resolve_right (fun z => z rfl)) hR.hS.2.2 hdq (hlocks := hlk)
      | _ => cases (show false = true from hek)
  · have hins : ins = .return_ := hins
    subst hins
    have hxr := ty_sr_nil hR.sr
    subst hxr
    have hek : ex_ek M.2.2.1 I.2.2.1 (pc, .return_, len, a1, a2, a3, ts) = true := hqk
    cases hrt : I.2.2.1 with
    | none =>
      rw [hrt] at hek
      have hl : len = 1 := ex_beq hek
      subst hl
      exact W.vret hx1 hx2 (hret.trans hrt) (fun t ht hW => (mk none t trivial ht hW.alike).resolve_right (fun z => z rfl)) hR.hS.2.2 hdq (hlocks := hlk)
    | some ty => rw [hrt] at hek; cases (show false = true from hek)
  · have hins : ins = .lreturn := hins
    subst hins
    obtain ⟨x, xr, rfl, hv, hr'⟩ := ty_sr_cons hR.sr
    obtain ⟨y, rfl, hy⟩ := hv
    have hxr := ty_sr_nil hr'
    subst hxr
    have hek : ty_ek M.2.2.1 I.2.2.1 (pc, .lreturn, len, a1, a2, a3, ts) = true := hqk
    cases hrt : I.2.2.1 with
    | none => rw [hrt] at hek; cases (show false = true from hek)
    | some ty =>
      rw [hrt] at hek
      cases ty with
      | long =>
        have hl : len = 1 := ex_beq hek
        subst hl
        exact W.lret hx1 hx2 (hret.trans hrt) (fun t ht hW => (mk (some (.long y)) t ⟨⟨y, rfl, hy⟩, trivial⟩ ht hW.alike).resolve_right (fun z => z rfl)) hR.hS.2.2 hdq (hlocks := hlk)
      | _ => cases (show false = true from hek)
set_option maxHeartbeats 4000000 in
/-- one who is walked through -/
theorem ty_met {mt : Nat → Option ex_M} {cn : List ty_Con} {f : Nat} (hs : ty_Snd mt mi cn l f) {M : ex_M} {I : ex_I} (hMO : ty_MO mi M I) {d : Nat} {ms : ty_M} {e : ty_E} {as : List ty_V} {K : ty_K} {outs : List (ty_E × ty_S)} {l1 : List ty_A} (hr : ty_run mt cn f false [] d false M ms e (M.1, ty_args as 0, [], K) = some outs) (hrt : ty_rets M.2.2.1 outs = some l1)
    {ρ : Nat → Int} {ws : va_W} {va : List Value} {sz : Nat} (he : ty_er ρ e) (ha : ty_sr b sa e.1 ρ ws as va) (hlen : ty_csum as ≤ M.2.1) (hK : ty_Kr b sa e.1 ρ ws K) (hth : ty_th tys ws) :
    Met l I.1 (Cond.code I.1 I.2.1 M.2.1 I.2.2.1 :: ex_tb) (ty_Rm d) (va_Pc va (ty_Pc D sa ws tys sz)) (ty_Qc D b sa ρ e.1 ms ws tys sz l1) 0 0 (va_A ws sz) := by
  obtain ⟨m0, m8, m9⟩ := hMO
  refine Met.ofW (cc := I.2.1) (maxL := M.2.1) (ret := I.2.2.1) m0.1 rfl ?_
  intro p en s m args below meth c s₁ B hml hv
  obtain ⟨rfl, ⟨hsz, hP, hK0, hD0, hNw, hAO⟩, Z⟩ := hv
  subst hsz
  have hts := atoms_spec (ws := Cond.code I.1 I.2.1 M.2.1 I.2.2.1 :: ex_tb) B.pre
  have X : ex_X p (headSpec (Cond.code I.1 I.2.1 M.2.1 I.2.2.1 :: ex_tb) (ty_Rm d)).room s m va.toArray meth c (fun _ => 0) b 0 (va_A ws s.heap.size) I.1.cls I.1.name I.2.1 M.2.1 d (0, 0) false := ⟨B.exec, B.bytes, hml, findClass_of_methodNamed B.named, fun w hw => hts w (List.mem_cons_of_mem _ hw), fun q hq => Or.inr hq, hNw, hAO, (fun z => by cases z), (name_of_methodNamed B.named B.method).1, ⟨Nat.le_refl _, Nat.le_refl _⟩, Nat.le_refl _, Nat.le_refl _⟩
  have hG := (hs _ _ _ _ M ms e _ outs hr I.1.cls I.1.name I.2.1 I.2.2.1 m9 p en _ s m va.toArray below meth c (MQ below (ty_Qc D b sa ρ e.1 ms ws tys s.heap.size l1) va.toArray s 0 0 (va_A ws s.heap.size)) D (fun _ => 0) b sa 0 (va_A ws s.heap.size) e.1 ρ ws tys (0, 0) 0 0 ⟨Nat.zero_le _, Nat.zero_le _⟩ X Z (fun z => by cases z) (fun x hx => by
    obtain ⟨a, ha', hra⟩ := ty_rets_ok hrt x hx
    exact ty_ret_ok B.exec B.bytes B.returns B.notSynchronized m9 hra (fun oc t hA hF => ⟨⟨a, ha', hA⟩, hF⟩))).2
  rw [lg_entry_eq]
  obtain ⟨a1, a2⟩ := ty_args_ok ha 0
  have hl := lv_entry va (n := M.2.1) (by rw [a2]; exact hlen)
  obtain ⟨q, r, hq, hq0⟩ := m8
  exact hG ρ (fun _ _ => rfl) 0 _ [] ws s.heap [] ⟨q, r, hq, hq0⟩ (fun q h => h) ⟨⟨_, hl, a1⟩, he, trivial, hK, hth, ty_frm.rf, Nat.le_refl _, hK0, hP, hD0.self, va_S.rf, ex_xt.rf⟩
set_option maxHeartbeats 4000000 in
set_option maxRecDepth 100000 in
theorem ty_run_ok {mt : Nat → Option ex_M} {cn : List ty_Con} (hgw : ty_GW) (hmt : ∀ (j : Nat) (M : ex_M), mt j = some M → ∃ I, mi j = some I ∧ ty_MO mi M I) (hcn : ∀ C ∈ cn, ty_ConOk mi l C) (f : Nat) : ty_Snd mt mi cn l f := by
  induction f with
  | zero =>
    intro first cuts d isl M ms e S o hr
    cases (show none = some o from hr)
  | succ f ih =>
    intro first cuts d isl M ms e S o hr0 own nm cd ret hPO p en R s m args below meth c Q D σ b sa L A nr ρ0 w0 tys cap k1 k2 hkc X Z hL hG
    obtain ⟨sx, lv, st, K⟩ := S
    cases sx with
    | nil => cases (show none = some o from hr0)
    | cons q r =>
      refine ⟨List.cons_ne_nil _ _, ?_⟩
      have hr : (bif ty_end q || (!first && ex_any (Nat.beq q.1) cuts) then some [(e, (q :: r, lv, st, K))] else ty_sp (ty_run mt cn f) mt cn cuts d isl M ms e q r lv st K) = some o := hr0
      clear hr0
      intro ρ ha pc ls xs ws H locs hh0 hsub hR
      obtain ⟨q0, r0, e0, e1⟩ := hh0
      have e0 : q :: r = q0 :: r0 := e0
      injection e0 with e0 e2
      subst e0
      subst e1
      have hsub : ∀ x ∈ q :: r, x ∈ M.1 := hsub
      have hR : ty_Rl s D b sa A M.2.1 nr w0 tys ms ρ e lv st K ls xs ws H locs := hR
      show W p l en R s m args below meth c H locs k1 k2 Q (F0 m q.1 ls xs)
      obtain ⟨hdq, hqk⟩ := hPO q (hsub q List.mem_cons_self)
      rcases ex_bif (P := fun z => z = some o) hr with ⟨g1, g2⟩ | ⟨g1, g2⟩
      · injection g2 with g2
        subst g2
        exact hG _ (List.mem_singleton.mpr rfl) ρ ha q.1 ls xs ws H locs ⟨q, r, rfl, rfl⟩ hsub hR
      · obtain ⟨g1e, -⟩ := Bool.or_eq_false_iff.mp g1
        have hqk : (bif ty_call q then ty_ck mi own q else ty_pk own nm q) = true := by
          unfold ty_qk at hqk
          rw [g1e] at hqk
          exact hqk
        unfold ty_sp at g2
        split at g2
        · cases g2
        rename_i lx hlx
        have hN : ty_NN p l en R s m args below meth c k1 k2 Q D b sa A M.2.1 nr ρ0 w0 tys ms M.1 lx := fun x hx => by
          obtain ⟨ox, h1, h2⟩ := ty_all_ok g2 x hx
          exact ih false cuts d isl M ms x.1 x.2 ox h1 own nm cd ret hPO p en R s m args below meth c Q D σ b sa L A nr ρ0 w0 tys cap k1 k2 hkc X Z hL (fun y hy => hG y (h2 y hy))
        have key : ∀ (e : ty_E) (K : ty_K), ty_st1 (ty_run mt cn f) mt cn d isl M ms q r lv st (e, K) = some lx → ty_Rl s D b sa A M.2.1 nr w0 tys ms ρ e lv st K ls xs ws H locs → W p l en R s m args below meth c H locs k1 k2 Q (F0 m q.1 ls xs) := by
          clear hR hlx
          intro e K hlx hR
          rcases ex_bif (P := fun z => z = some lx) hlx with ⟨g3, g4⟩ | ⟨hns, hlx⟩
          · have hnc : ty_call q = false := ty_str_nc g3
            rw [hnc] at hqk
            exact ty_sst_ok X Z hqk hdq g3 g4 hN hsub ha hR
          rcases ex_bif (P := fun z => z = some lx) hlx with ⟨g3, g4⟩ | ⟨g3, g4⟩
          · rw [g3] at hqk
            have hck : ty_ck mi own q = true := hqk
            unfold ty_cl at g4
            split at g4
            · cases g4
            · rename_i d'
              split at g4
              · cases g4
              · rename_i ar har
                obtain ⟨as, rest⟩ := ar
                obtain ⟨g5, g6⟩ := ex_bifs g4
                obtain ⟨c1, g5⟩ := ex_and g5
                obtain ⟨c4, c5⟩ := ex_and g5
                have c1 : ty_csum rest ≤ 8 := ex_ble c1
                have fin : ∀ (la : List ty_A), lx = ex_map (ty_bk r lv rest) la → ∀ a ∈ la, ty_G p l en R s m args below meth c k1 k2 Q D b sa A M.2.1 nr ρ0 w0 tys ms M.1 a.1 (r, lv, ex_app a.2.1 rest, a.2.2) := fun la hla a ha => by
                  rw [hla, ex_map_eq] at hN
                  exact (hN (ty_bk r lv rest a) (List.mem_map.mpr ⟨a, ha, rfl⟩)).2
                rcases ex_bif (P := fun z => z = some lx) g6 with ⟨g7, g8⟩ | ⟨g7, g8⟩
                · split at g8
                  · rename_i la hla
                    injection g8 with g8
                    obtain ⟨C, hC, happ⟩ := ty_fst_ok hla
                    obtain ⟨I, nL, hI, hMS, hM⟩ := hcn C hC
                    have hapk := fun (va : List Value) (hva : ty_sr b sa e.1 ρ ws as va) => ty_app_ok (D := D) (A := va_A ws H.size) happ hR.er hR.Kr hR.th hva
                    obtain ⟨va, xr, t1, t2, t4, t5⟩ := ty_take_ok har (xa := []) (ρ := ρ) (b := b) (sa := sa) (ws := ws) trivial hR.sr
                    obtain ⟨j1, j2, -⟩ := hapk va t1
                    obtain ⟨-, -, σ', s1, s2, s3, s4⟩ := hapk va t1
                    have hva : ∀ va', ty_sr b sa e.1 ρ ws as va' → ∃ σ', ty_er σ' C.2.2.1 ∧ ty_sr b sa C.2.2.1.1 σ' ws C.2.1 va' ∧ ty_Kr b sa C.2.2.1.1 σ' ws C.2.2.2.1 ∧ ∀ oc t, (∃ po ∈ C.2.2.2.2.1, ty_An D b sa σ' C.2.2.1.1 C.2.2.2.2.2.1 ws tys (va_A ws H.size) po oc t) → ∃ a ∈ la, ty_An D b sa ρ e.1 ms ws tys (va_A ws H.size) a oc t := fun va' h => (hapk va' h).2.2
                    refine ty_call_ok (Z := Z) (hkc := hkc) (Qa := fun _ st oc t => (∃ a ∈ la, ty_An D b sa ρ e.1 ms ws tys (va_A ws H.size) a oc t) ∧ va_F (va_A ws H.size) st t) X (hI := by rw [← j1]; exact hI) hMS j2 hck hdq har c1 c4 c5 (fun va' hva' => ?_) (fun v st oc t h => h) (fin la g8.symm) hsub ha hR
                    obtain ⟨σ', s1, s2, s3, s4⟩ := hva va' hva'
                    exact ty_met_mono (hM D b sa σ' ws tys va' H.size s1 s2 s3 hR.th) (fun v st oc t h => ⟨s4 oc t h.1, h.2⟩)
                  · split at g8
                    · rename_i i hi
                      exact ty_spl_ok g8 hN hsub ha hR
                    · split at g8
                      · exact ty_spl_ok g8 hN hsub ha hR
                      · cases g8
                · split at g8
                  · cases g8
                  · rename_i M' hM'
                    obtain ⟨g8, g9⟩ := ex_bifs g8
                    split at g9
                    · cases g9
                    · rename_i outs houts
                      split at g9
                      · cases g9
                      · rename_i la hla
                        injection g9 with g9
                        obtain ⟨I, hI, hMO⟩ := hmt _ _ hM'
                        exact ty_call_ok X Z hkc hI hMO.1 (Nat.le_refl _) hck hdq har c1 c4 c5 (fun va hva => ty_met ih hMO houts hla hR.er hva (ex_ble g8) hR.Kr hR.th) (fun v st oc t h => h) (fin la g9.symm) hsub ha hR
          · rw [g3] at hqk
            exact ty_step_ok hgw hkc X hL hns hqk hdq g4 hN hsub ha hR
        unfold ty_st0 at hlx
        obtain ⟨s1, s2, s3⟩ := ty_sat_ok hR.th hR.er hR.Kr
        rcases ex_bif (P := fun z => z = some lx) hlx with ⟨-, hlx⟩ | ⟨-, hlx⟩
        · exact key _ _ hlx ((hR.kn s3).nar s2 s1)
        split at hlx
        · rename_i l1 hl1
          injection hlx with hlx
          subst hlx
          exact key e K hl1 hR
        · obtain ⟨-, hlx⟩ := ex_bifs hlx
          exact key _ _ hlx ((hR.kn s3).nar s2 s1)
end TYD
