/-! THE CLAIM OUT OF ONE WALK OF THE LAW'S BODY. Your part is whole_start (and what it stands on); all else here is the same for every law, but numbers. -/
def R_law : String := "HatchLightsLaw"
def lw_P (b : Addr) (xs : List Int32) (args : Array Value) (s : State) : Prop := args = #[.ref b] ∧ s.IntsAt b xs ∧ xs.length ≤ 6 ∧ (Jvm.Cond.and given_1 narrow_1).before args s = true
def lw_Q (_ : Array Value) (s : State) (o : Outcome) (t : State) : Prop := o = .returned (some (.int 1)) ∧ Framed s o t [] 600000 7302250
def lw_Z (below : List Frame) (a : Array Value) (s : State) : State → Prop := fun t => ∃ o, t.status = .running ∧ Ended t below o ∧ lw_Q a s o t
/-- the law's own end, with 1 on the stack, nothing written that was there before, its room as the claim has it -/
theorem lw_ret {p : Program} {l : Launch} {e : Env} {s : State} {m : MethodId} {below : List Frame} {meth : Method} {c : Code} {b : Nat} (hx : p.tables.exec = Jvm.exec) (hb : c.code = code) (hr : meth.sig.returnType = ret) (hlocks : meth.locks = false) {pc : Nat} {H : Heap} {ls : Array Slot} (hdg : decode code pc = .ok (.ireturn, 1)) : W p l e room_1 s m #[Value.ref b] below meth c H [] 600000 7302250 (lw_Z below #[Value.ref b] s) (F0 m pc ls [.int 1]) := by
  intro T hT X
  obtain ⟨fs, hret, hrun, hended, hW, hframe⟩ := X.leave (v := some (.int 1)) (hlocks := hlocks) (fun h => by rw [hr] at h; cases h)
  have hmeth' : T.vm.method? m = some meth := X.method'
  refine ⟨T.setFrames fs, ?_, .returned (some (.int 1)), hrun, hended, rfl, ⟨_, rfl⟩, hW, hframe⟩
  jvm_step X.here [X.here.top, hx, hb, hdg, hmeth', hr, ret, narrow_b1]
  (try refine ⟨rfl, ?_⟩); (try refine ⟨rfl, ?_⟩)
  first | (intro acts; rw [hret _ acts rfl rfl rfl]) | rw [hret _ _ rfl rfl rfl]
  exact Steps.refl _
/-- what holds at the law's entry: the machine, the code, the tables' words (any of lw_tbl by 'hts w (by decide +kernel)'), the script of L ints xs at the cell b, what the Statement gives of the start (any of its parts by flat_of_before) -/
def lw_At (p : Program) (s : State) (m : MethodId) (meth : Method) (c : Code) (b L : Nat) (xs : Nat → Int32) : Prop :=
  p.tables.exec = Jvm.exec ∧ c.code = code ∧ meth.sig.returnType = ret ∧ c.maxLocals = 4 ∧ s.vm.findClass R_law = some m.cls ∧ (∀ w ∈ lw_tbl, w.before #[Value.ref b] s = true) ∧ va_X b L xs s s.heap ∧ b < s.heap.size ∧ meth.locks = false ∧ (Jvm.Cond.and given_1 narrow_1).before #[Value.ref b] s = true
noncomputable def ex_npf (q : ex_P) : Bool := match q.2.1 with
  | .putfield _ => false
  | _ => true
theorem ex_qk_nm {mi : Nat → Option ex_I} {own nm nm' : String} {z : Nat} {ret : Option FieldType} {q : ex_P} (h : ex_npf q = true) : ex_qk mi own nm z ret q = ex_qk mi own nm' z ret q := by
  obtain ⟨pc, ins, len, a1, a2, a3, ts⟩ := q
  cases ins <;> first | rfl | (cases (show false = true from h))
set_option maxRecDepth 1000000 in
theorem ex_lawn : ex_every ex_npf ex_p_L_law = true := by decide +kernel
theorem ex_lawPO2 (nm : String) : ex_PO ex_mi RL nm code 1 (some .boolean) ex_p_L_law := fun q hq => by
  obtain ⟨h1, h2⟩ := ex_lawPO q hq
  exact ⟨h1, by rw [ex_qk_nm (nm' := "law") (ex_every_ok ex_lawn q hq)]; exact h2⟩
theorem ex_G_le {p : Program} {l : Launch} {e : Env} {R : Room} {s : State} {m : MethodId} {args : Array Value} {below : List Frame} {meth : Method} {c : Code} {Q : State → Prop} {D : va_G} {ρ : Nat → Int32} {b : Nat} {A : Nat → Prop} {mL : Nat} {w0 : va_W} {t0 : List (ClassId × FieldType)} {t : Nat} {x : ex_E × ex_S} (hx : ex_is t x = true) (hne : ex_jp ex_p_L_law t ≠ []) (hG : ex_G p l e R s m args below meth c Q D ρ b A mL w0 t0 ex_p_L_law ex_en0 (ex_at0 t)) : ex_G p l e R s m args below meth c Q D ρ b A mL w0 t0 ex_p_L_law x.1 x.2 := by
  obtain ⟨en, sx, lv, st, h, n, k1, k2⟩ := x
  unfold ex_is at hx
  dsimp only at hx
  obtain ⟨hx, c8⟩ := ex_and hx
  obtain ⟨hx, c7⟩ := ex_and hx
  obtain ⟨hx, c6⟩ := ex_and hx
  obtain ⟨hx, c5⟩ := ex_and hx
  obtain ⟨hx, c4⟩ := ex_and hx
  obtain ⟨hx, c3⟩ := ex_and hx
  obtain ⟨c1, c2⟩ := ex_and hx
  have c3 : lv = ex_lv0 := ex_lq_ok ex_pqz_ok c3
  have c4 : st = [] := ex_lq_ok (fun _ _ => ex_veq_ok) c4
  have c6 := ex_beq c6
  have c7 := ex_beq c7
  have c8 := ex_beq c8
  subst c3
  subst c4
  subst c6
  subst c7
  subst c8
  intro pc ls xs ws tys H locs hh hsub hR
  obtain ⟨q, r, e0, e1⟩ := hh
  have e0 : sx = q :: r := e0
  subst e0
  have c1 : q.1 = t := ex_beq c1
  have e1 : q.1 = pc := e1
  have hpc : pc = t := e1.symm.trans c1
  subst hpc
  refine hG pc ls xs ws tys H locs (show ∃ q r, ex_jp ex_p_L_law pc = q :: r ∧ q.1 = pc from ex_jp_sub.2.resolve_left hne) (show ∀ q ∈ ex_jp ex_p_L_law pc, q ∈ ex_p_L_law from ex_jp_sub.1) ⟨hR.1, ?_, hR.2.2.1, ?_, hR.2.2.2.2⟩
  · intro i z hz
    obtain ⟨z', z1, z2, z3⟩ := ex_eq'_ok c2 i z hz
    have := hR.er i z' z1
    omega
  · exact ⟨hR.hr.1, fun k cc hk => hR.hr.2 k cc (ex_hq_ok c5 hk)⟩
theorem ex_en0_ok (ρ : Nat → Int32) : ex_er ρ ex_en0 := by
  intro i q hq
  rw [ex_nth_get] at hq
  have hm := List.mem_of_getElem? hq
  simp only [ex_en0, List.mem_cons, List.not_mem_nil, or_false, or_self] at hm
  subst hm
  have := ex_u_lt (ρ i)
  exact ⟨Nat.zero_le _, by show ex_u (ρ i) ≤ 4294967295; omega⟩
theorem ex_er_set {ρ : Nat → Int32} {en : ex_E} {i : Nat} {q : Nat × Nat} (he : ex_er ρ en) (h1 : q.1 ≤ ex_u (ρ i)) (h2 : ex_u (ρ i) ≤ q.2) : ex_er ρ (ex_set en i q) := by
  intro j y hj
  rw [ex_nth_get, ex_set_eq, List.getElem?_set] at hj
  split at hj
  · rename_i hij
    subst hij
    split at hj
    · injection hj with hj
      subst hj
      exact ⟨h1, h2⟩
    · cases hj
  · exact he j y (by rw [ex_nth_get]; exact hj)
theorem ex_G_cut {p : Program} {l : Launch} {e : Env} {R : Room} {s : State} {m : MethodId} {args : Array Value} {below : List Frame} {meth : Method} {c : Code} {Q : State → Prop} {D : va_G} {ρ : Nat → Int32} {b : Nat} {A : Nat → Prop} {mL : Nat} {w0 : va_W} {t0 : List (ClassId × FieldType)} {pr : List ex_P} {en : ex_E} {S : ex_S} {i : Nat} {q : Nat × Nat} (hi : ex_nth en i = some q) (k : Nat) (h1 : ex_G p l e R s m args below meth c Q D ρ b A mL w0 t0 pr (ex_set en i (q.1, k)) S) (h2 : ex_G p l e R s m args below meth c Q D ρ b A mL w0 t0 pr (ex_set en i (k + 1, q.2)) S) : ex_G p l e R s m args below meth c Q D ρ b A mL w0 t0 pr en S := by
  intro pc ls xs ws tys H locs hh hsub hR
  have hb := hR.er i q hi
  rcases Nat.lt_or_ge k (ex_u (ρ i)) with z | z
  · exact h2 pc ls xs ws tys H locs hh hsub (hR.env (ex_er_set hR.er z hb.2))
  · exact h1 pc ls xs ws tys H locs hh hsub (hR.env (ex_er_set hR.er hb.1 z))
/-- the law's ends -/
theorem ex_end_ok {p : Program} {l : Launch} {e : Env} {s : State} {m : MethodId} {below : List Frame} {meth : Method} {c : Code} {D : va_G} {ρ : Nat → Int32} {b : Nat} {w0 : va_W} {t0 : List (ClassId × FieldType)} (hx : p.tables.exec = Jvm.exec) (hb : c.code = code) (hr : meth.sig.returnType = ret) (hlocks : meth.locks = false) {x : ex_E × ex_S} (h : ex_end1 x = true) : ex_G p l e room_1 s m #[Value.ref b] below meth c (lw_Z below #[Value.ref b] s) D ρ b (fun q : Nat => s.heap.size ≤ q) 4 w0 t0 ex_p_L_law x.1 x.2 := by
  obtain ⟨en, sx, lv, st, hp, n, k1, k2⟩ := x
  unfold ex_end1 at h
  dsimp only at h
  obtain ⟨h, c4⟩ := ex_and h
  obtain ⟨h, c3⟩ := ex_and h
  obtain ⟨c1, c2⟩ := ex_and h
  have c2 : st = [ex_k 2147483649] := ex_lq_ok (fun _ _ => ex_veq_ok) c2
  subst c2
  intro pc ls xs ws tys H locs hh hsub hR
  obtain ⟨q, r, e0, e1⟩ := hh
  have e0 : sx = q :: r := e0
  subst e0
  subst e1
  obtain ⟨y, ys, rfl, hv, hr'⟩ := ex_sr_cons hR.sr
  have hys := ex_sr_nil hr'
  subst hys
  obtain ⟨z, rfl, hz⟩ := hv
  have hz1 : z = 1 := ex_u_inj (by rw [hz]; decide)
  subst hz1
  obtain ⟨hdq, hqk⟩ := ex_lawPO q (hsub q List.mem_cons_self)
  obtain ⟨pc, ins, len, a1, a2, a3, ts⟩ := q
  dsimp only at c1
  split at c1
  · obtain ⟨z1, -⟩ := ex_and (show (Nat.beq len 1 && Nat.beq 1 1) = true from hqk)
    have hl : len = 1 := ex_beq z1
    subst hl
    refine va_forget (fun z hz => hR.hS.2.2 z hz) ?_
    refine W.widen (k := 600000) (n := 7302250) (ex_ble c3) (ex_ble c4) ?_
    exact lw_ret hx hb hr hlocks hdq
  · cases c1
theorem ex_fin_ok {x : Option (List (ex_E × ex_S))} (h : ex_fin x = true) : ∃ o, x = some o ∧ ∀ y ∈ o, ex_end1 y = true := by
  unfold ex_fin at h
  split at h
  · rename_i o
    exact ⟨o, rfl, ex_every_ok h⟩
  · cases h
set_option maxRecDepth 100000 in
theorem ex_jpne : ∀ t ∈ (18 :: ex_tg), ex_jp ex_p_L_law t ≠ [] := by
  have h : ex_every (fun t => ex_hd t (ex_jp ex_p_L_law t)) (18 :: ex_tg) = true := by decide +kernel
  intro t ht he
  have h1 := ex_every_ok h t ht
  rw [he] at h1
  cases h1
