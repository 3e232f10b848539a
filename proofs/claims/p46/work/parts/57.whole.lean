/-! THE CLAIM OUT OF ONE WALK OF THE LAW'S BODY. Your part is whole_start (and what it stands on); all else here is the same for every law, but numbers. -/
def R_law : String := "HatchLightsLaw"
def lw_P (b : Addr) (xs : List Int32) (args : Array Value) (s : State) : Prop := args = #[.ref b] ∧ s.IntsAt b xs ∧ xs.length ≤ 3072 ∧ (Jvm.Cond.and given_1 narrow_1).before args s = true
def lw_Q (_ : Array Value) (s : State) (o : Outcome) (t : State) : Prop := o = .returned (some (.int 1)) ∧ Framed s o t [] 600000 7302250
def lw_Z (below : List Frame) (a : Array Value) (s : State) : State → Prop := fun t => ∃ o, t.status = .running ∧ Ended t below o ∧ lw_Q a s o t
/-- the law's own end, with 1 on the stack, nothing written that was there before, its room as the claim has it -/
theorem lw_ret {p : Program} {l : Launch} {e : Env} {s : State} {m : MethodId} {below : List Frame} {meth : Method} {c : Code} {b : Nat} (hx : p.tables.exec = Jvm.exec) (hb : c.code = code) (hr : meth.sig.returnType = ret) (hlocks : meth.locks = false) {pc : Nat} {H : Heap} {ls : Array Slot} (hdg : decode code pc = .ok (.ireturn, 1)) : W p l e room_1 s m #[Value.ref b] below meth c H [] 600000 7302250 (lw_Z below #[Value.ref b] s) (F0 m pc ls [.int 1]) := by
  intro T hT X
  obtain ⟨fs, hret, hrun, hended, hW, hframe⟩ := X.leave (v := some (.int 1)) (hlocks := hlocks) (fun h => by rw [hr] at h; cases h)
  have hmeth' : T.vm.method? m = some meth := X.method'
  refine ⟨T.setFrames fs, ?_, .returned (some (.int 1)), hrun, hended, rfl, ⟨_, rfl⟩, hW, hframe⟩
  jvm_step X.here [X.here.top, hx, hb, hdg, hmeth', hr, ret, narrow_b1]
  (try refine ⟨rfl, ?_⟩); (try refine ⟨rfl, ?_⟩)
  first | (intro acts; rw [hret _ acts rfl rfl rfl]) | rw [hret _ _ rfl rfl rfl]
  exact Steps.refl _
/-- what holds at the law's entry: the machine, the code, the tables' words (any of lw_tbl by 'hts w (by decide +kernel)'), the script of L ints xs at the cell b, what the Statement gives of the start (any of its parts by flat_of_before) -/
def lw_At (p : Program) (s : State) (m : MethodId) (meth : Method) (c : Code) (b L : Nat) (xs : Nat → Int32) : Prop :=
  p.tables.exec = Jvm.exec ∧ c.code = code ∧ meth.sig.returnType = ret ∧ c.maxLocals = 4 ∧ s.vm.findClass R_law = some m.cls ∧ (∀ w ∈ lw_tbl, w.before #[Value.ref b] s = true) ∧ va_X b L xs s s.heap ∧ b < s.heap.size ∧ meth.locks = false ∧ (Jvm.Cond.and given_1 narrow_1).before #[Value.ref b] s = true
noncomputable def ex_npf (q : ex_P) : Bool := match q.2.1 with
  | .putfield _ => false
  | _ => true
theorem ex_qk_nm {mi : Nat → Option ex_I} {own nm nm' : String} {z : Nat} {ret : Option FieldType} {q : ex_P} (h : ex_npf q = true) : ex_qk mi own nm z ret q = ex_qk mi own nm' z ret q := by
  obtain ⟨pc, ins, len, a1, a2, a3, ts⟩ := q
  cases ins <;> first | rfl | (cases (show false = true from h))
set_option maxRecDepth 1000000 in
theorem ex_lawn : ex_every ex_npf ex_p_L_law = true := by decide +kernel
theorem ex_lawPO2 (nm : String) : ex_PO ex_mi RL nm code 1 (some .boolean) ex_p_L_law := fun q hq => by
  obtain ⟨h1, h2⟩ := ex_lawPO q hq
  exact ⟨h1, by rw [ex_qk_nm (nm' := "law") (ex_every_ok ex_lawn q hq)]; exact h2⟩
theorem ex_G_le {p : Program} {l : Launch} {e : Env} {R : Room} {s : State} {m : MethodId} {args : Array Value} {below : List Frame} {meth : Method} {c : Code} {Q : State → Prop} {D : va_G} {ρ : Nat → Int32} {b : Nat} {A : Nat → Prop} {mL : Nat} {w0 : va_W} {t0 : List (ClassId × FieldType)} {t : Nat} {x : ex_E × ex_S} (hx : ex_is t x = true) (hne : ex_jp ex_p_L_law t ≠ []) (hG : ex_G p l e R s m args below meth c Q D ρ b A mL w0 t0 ex_p_L_law ex_en0 (ex_at0 t)) : ex_G p l e R s m args below meth c Q D ρ b A mL w0 t0 ex_p_L_law x.1 x.2 := by
  obtain ⟨en, sx, lv, st, h, n, k1, k2⟩ := x
  unfold ex_is at hx
  dsimp only at hx
  obtain ⟨hx, c8⟩ := ex_and hx
  obtain ⟨hx, c7⟩ := ex_and hx
  obtain ⟨hx, c6⟩ := ex_and hx
  obtain ⟨hx, c5⟩ := ex_and hx
  obtain ⟨hx, c4⟩ := ex_and hx
  obtain ⟨hx, c3⟩ := ex_and hx
  obtain ⟨c1, c2⟩ := ex_and hx
  have c3 : lv = ex_lv0 := ex_lq_ok ex_pqz_ok c3
  have c4 : st = [] := ex_lq_ok (fun _ _ => ex_veq_ok) c4
  have c6 := ex_beq c6
  have c7 := ex_beq c7
  have c8 := ex_beq c8
  subst c3
  subst c4
  subst c6
  subst c7
  subst c8
  intro pc ls xs ws tys H locs hh hsub hR
  obtain ⟨q, r, e0, e1⟩ := hh
  have e0 : sx = q :: r := e0
  subst e0
  have c1 : q.1 = t := ex_beq c1
  have e1 : q.1 = pc := e1
  have hpc : pc = t := e1.symm.trans c1
  subst hpc
  refine hG pc ls xs ws tys H locs (show ∃ q r, ex_jp ex_p_L_law pc = q :: r ∧ q.1 = pc from ex_jp_sub.2.resolve_left hne) (show ∀ q ∈ ex_jp ex_p_L_law pc, q ∈ ex_p_L_law from ex_jp_sub.1) ⟨hR.1, ?_, hR.2.2.1, ?_, hR.2.2.2.2⟩
  · intro i z hz
    obtain ⟨z', z1, z2, z3⟩ := ex_eq'_ok c2 i z hz
    have := hR.er i z' z1
    omega
  · exact ⟨hR.hr.1, fun k cc hk => hR.hr.2 k cc (ex_hq_ok c5 hk)⟩
theorem ex_en0_ok (ρ : Nat → Int32) : ex_er ρ ex_en0 := by
  intro i q hq
  rw [ex_nth_get] at hq
  have hm := List.mem_of_getElem? hq
  simp only [ex_en0, List.mem_cons, List.not_mem_nil, or_false, or_self] at hm
  subst hm
  have := ex_u_lt (ρ i)
  exact ⟨Nat.zero_le _, by show ex_u (ρ i) ≤ 4294967295; omega⟩
theorem ty_lend_ok {p : Program} {l : Launch} {e : Env} {s : State} {m : MethodId} {below : List Frame} {meth : Method} {c : Code} {D : va_G} {b : Nat} {sa : Nat → Nat} {nr : Nat} {ρ0 : Nat → Int} {w0 : va_W} {tys : List (ClassId × FieldType)} {ms : ty_M} (hx : p.tables.exec = Jvm.exec) (hb : c.code = code) (hr : meth.sig.returnType = ret) (hlocks : meth.locks = false) {x : ty_E × ty_S} (h : ty_lgood x = true) : ty_G p l e room_1 s m #[Value.ref b] below meth c 533 26108 (lw_Z below #[Value.ref b] s) D b sa (fun q : Nat => s.heap.size ≤ q) ty_lawM.2.1 nr ρ0 w0 tys ms ty_lawM.1 x.1 x.2 := by
  obtain ⟨en, sx, lv, st, K⟩ := x
  unfold ty_lgood at h
  dsimp only at h
  split at h
  · rename_i q r lv' t K' heq
    injection heq with heq1 heq2
    injection heq2 with heq2 heq3
    injection heq3 with heq3 heq4
    subst heq1
    subst heq3
    split at h
    · rename_i hins
      split at h
      · rename_i hc
        intro ρ ha pc ls xs ws H locs hh hsub hR
        obtain ⟨q', r', e0, e1⟩ := hh
        have e0 : q :: r = q' :: r' := e0
        injection e0 with e0 e2
        subst e0
        subst e1
        obtain ⟨x1, xr, rfl, hv, hr'⟩ := ty_sr_cons hR.sr
        have hxr := ty_sr_nil hr'
        subst hxr
        obtain ⟨z, rfl, hz⟩ := hv
        have hz1 := ty_cst_ok hR.er hc
        rw [hz.2] at hz1
        have hz1 : z = 1 := Int32.toInt_inj.mp (hz1.trans rfl)
        subst hz1
        obtain ⟨hdq, hqk⟩ := ty_lawPO q (hsub q List.mem_cons_self)
        obtain ⟨pc, ins, len, a1, a2, a3, ts⟩ := q
        have hins : ins = .ireturn := hins
        subst hins
        obtain ⟨z1, -⟩ := ex_and (show (Nat.beq len 1 && Nat.beq 1 1) = true from hqk)
        have hl : len = 1 := ex_beq z1
        subst hl
        refine va_forget (fun z hz => hR.hS.2.2 z hz) ?_
        refine W.widen (k := 600000) (n := 7302250) (by decide) (by decide) ?_
        exact lw_ret hx hb hr hlocks hdq
      · cases h
    · cases h
  · cases h
set_option maxRecDepth 100000 in
theorem ty_lr0 {xs : Nat → Int32} {b : Nat} {sa : Nat → Nat} {n : Nat} {ρ : Nat → Int} {ws : va_W} {lw : List (Nat × Value)} (h : ex_lr xs b ws ex_lv0 lw) : ty_lr b sa n ρ ws ty_llv lw := by
  cases lw with
  | nil => exact h.elim
  | cons x3 lw =>
  obtain ⟨⟨g3, v3⟩, h⟩ := h
  cases lw with
  | nil => exact h.elim
  | cons x2 lw =>
  obtain ⟨⟨g2, v2⟩, h⟩ := h
  cases lw with
  | nil => exact h.elim
  | cons x1 lw =>
  obtain ⟨⟨g1, v1⟩, h⟩ := h
  cases lw with
  | nil => exact h.elim
  | cons x0 lw =>
  obtain ⟨⟨g0, v0⟩, h⟩ := h
  cases lw with
  | cons _ _ => exact h.elim
  | nil =>
  have v3 : ∃ y : Int32, x3.2 = .int y ∧ ex_u y = 2147483648 := v3
  have v2 : ∃ (a : Nat) (ev : va_E), ws[494]? = some (a, ev) ∧ x2.2 = .ref a := v2
  have v1 : ∃ (a : Nat) (ev : va_E), ws[0]? = some (a, ev) ∧ x1.2 = .ref a := v1
  obtain ⟨y, h1, h2⟩ := v3
  obtain ⟨a2, e2, h3, h4⟩ := v2
  obtain ⟨a1, e1, h5, h6⟩ := v1
  have hy : y.toInt = 0 := by
    have := ex_u_int y
    rw [h2] at this
    omega
  have k2 : ty_kl[494]? = some 54 := by decide +kernel
  have k1 : ty_kl[0]? = some 0 := by decide +kernel
  exact ⟨⟨g3, y, h1, by rw [hy]; exact ty_is_k _ _ _⟩, ⟨g2, 494, a2, e2, ty_is_k _ _ (494 : Int), k2, h3, h4⟩, ⟨g1, 0, a1, e1, ty_is_k _ _ (0 : Int), k1, h5, h6⟩, ⟨g0, v0⟩, trivial⟩
set_option maxRecDepth 1000000 in
theorem ty_jp18 : ex_hd 18 (ex_jp ex_p_L_law 18) = true := by decide +kernel
theorem ty_jpne : ex_jp ex_p_L_law 18 ≠ [] := fun z => by
  have h := ty_jp18
  rw [z] at h
  cases h
set_option maxHeartbeats 8000000 in
theorem whole_start {p : Program} {e : Env} {s : State} {m : MethodId} {below : List Frame} {meth : Method} {c : Code} (l : Launch) {b L : Nat} {xs : Nat → Int32} (hL : L ≤ 3072) (C0 : lw_At p s m meth c b L xs) : W p l e room_1 s m #[Value.ref b] below meth c s.heap [] 0 0 (lw_Z below #[Value.ref b] s) (entryFrame m ([Value.ref b] : List Value).toArray 4) := by
  obtain ⟨hx, hb, hr, hml, hown, hts, hX, hbl, hlocks, hgv⟩ := id C0
  have hts' : ∀ w ∈ ex_tb, w.before #[Value.ref b] s = true := fun w hw => hts w (List.mem_filter.mp hw).1
  obtain ⟨c0, j0, hK0⟩ := u_known (C := RX0) (T := TX0) (N := 4) (n := 4) hts' (ex_cli (ci := 0) rfl).1 (hts' _ (ex_gwp.2.2.2 0 _ rfl).1)
  obtain ⟨c1, j1, hK1⟩ := u_known (C := RX1) (T := TX1) (N := 6) (n := 6) hts' (ex_cli (ci := 1) rfl).1 (hts' _ (ex_gwp.2.2.2 1 _ rfl).1)
  obtain ⟨c2, j2, hK2⟩ := u_known (C := RX2) (T := TX2) (N := 4) (n := 4) hts' (ex_cli (ci := 2) rfl).1 (hts' _ (ex_gwp.2.2.2 2 _ rfl).1)
  obtain ⟨c3, j3, hK3⟩ := u_known (C := RX3) (T := TX3) (N := 12) (n := 12) hts' (ex_cli (ci := 3) rfl).1 (hts' _ (ex_gwp.2.2.2 3 _ rfl).1)
  obtain ⟨c4, j4, hK4⟩ := u_known (C := RX4) (T := TX4) (N := 13) (n := 13) hts' (ex_cli (ci := 4) rfl).1 (hts' _ (ex_gwp.2.2.2 4 _ rfl).1)
  obtain ⟨c5, j5, hK5⟩ := u_known (C := RX5) (T := TX5) (N := 13) (n := 13) hts' (ex_cli (ci := 5) rfl).1 (hts' _ (ex_gwp.2.2.2 5 _ rfl).1)
  obtain ⟨c6, j6, hK6⟩ := u_known (C := RX6) (T := TX6) (N := 2) (n := 2) hts' (ex_cli (ci := 6) rfl).1 (hts' _ (ex_gwp.2.2.2 6 _ rfl).1)
  obtain ⟨c7, j7, hK7⟩ := u_known (C := RX7) (T := TX7) (N := 4) (n := 4) hts' (ex_cli (ci := 7) rfl).1 (hts' _ (ex_gwp.2.2.2 7 _ rfl).1)
  obtain ⟨c8, j8, hK8⟩ := u_known (C := RX8) (T := TX8) (N := 13) (n := 13) hts' (ex_cli (ci := 8) rfl).1 (hts' _ (ex_gwp.2.2.2 8 _ rfl).1)
  obtain ⟨c9, j9, hK9⟩ := u_known (C := RX9) (T := TX9) (N := 15) (n := 15) hts' (ex_cli (ci := 9) rfl).1 (hts' _ (ex_gwp.2.2.2 9 _ rfl).1)
  obtain ⟨c10, j10, hK10⟩ := u_known (C := RX10) (T := TX10) (N := 68) (n := 68) hts' (ex_cli (ci := 10) rfl).1 (hts' _ (ex_gwp.2.2.2 10 _ rfl).1)
  obtain ⟨dC, dI, hKc⟩ : ∃ (dC : Nat → ClassId) (dI : Nat → Nat → Nat), ∀ (k : Nat) (q : vw_C), vwCl[k]? = some q → u_Kn s q.1 q.2.1 q.2.2 (dC k) (dI k) := by
    refine ⟨fun k => [c0, c1, c2, c3, c4, c5, c6, c7, c8, c9, c10].getD k c0, fun k => [j0, j1, j2, j3, j4, j5, j6, j7, j8, j9, j10].getD k j0, ?_⟩
    intro k q hq
    match k, hq with
    | 0, hq => cases hq; exact hK0
    | 1, hq => cases hq; exact hK1
    | 2, hq => cases hq; exact hK2
    | 3, hq => cases hq; exact hK3
    | 4, hq => cases hq; exact hK4
    | 5, hq => cases hq; exact hK5
    | 6, hq => cases hq; exact hK6
    | 7, hq => cases hq; exact hK7
    | 8, hq => cases hq; exact hK8
    | 9, hq => cases hq; exact hK9
    | 10, hq => cases hq; exact hK10
    | k + 11, hq => simp [vwCl] at hq
  have hK : va_K (dC, dI) vwCl [] s := ⟨hKc, fun k q h => by simp at h⟩
  have hP : va_P (dC, dI) vwCl [] s.heap := fun k q h => by simp at h
  have hD : va_D (fun q : Nat => s.heap.size ≤ q) [] := ⟨fun i j p q h => by simp at h, fun k q h => by simp at h⟩
  have hnest : ∀ w ∈ ex_nest, va_Nw w s := by
    intro w hw
    simp only [ex_nest, List.mem_cons, List.not_mem_nil, or_false] at hw
    rcases hw with rfl | rfl | rfl | rfl | rfl
    · exact va_Nw.of rfl (hts _ (List.mem_of_getElem? (i := 141) (by decide +kernel)))
    · exact va_Nw.of rfl (hts _ (List.mem_of_getElem? (i := 158) (by decide +kernel)))
    · exact va_Nw.of rfl (hts _ (List.mem_of_getElem? (i := 170) (by decide +kernel)))
    · exact va_Nw.of rfl (hts _ (List.mem_of_getElem? (i := 276) (by decide +kernel)))
    · exact va_Nw.of rfl (hts _ (List.mem_of_getElem? (i := 348) (by decide +kernel)))
  have hAO : va_AO "HatchLights$Scene" s := va_AO.of (hts _ (List.mem_of_getElem? (i := 430) (by decide +kernel)))
  have X0 : ex_X p room_1 s m #[Value.ref b] meth c xs b 0 (fun q : Nat => s.heap.size ≤ q) RL meth.name code 4 20 (600000, 7302250) false := ⟨hx, hb, hml, hown, hts', fun _ h => h, hnest, hAO, (fun z => by cases z), rfl, ⟨Nat.le_refl _, Nat.le_refl _⟩, by decide, by decide⟩
  have X1 : ex_X p room_1 s m #[Value.ref b] meth c xs b L (fun q : Nat => s.heap.size ≤ q) RL meth.name code 4 61 (600000, 7302250) true := ⟨hx, hb, hml, hown, hts', fun _ h => h, hnest, hAO, fun _ => ⟨hX, hbl, Nat.not_le.mpr hbl⟩, rfl, ⟨Nat.le_refl _, Nat.le_refl _⟩, by decide, by decide⟩
  obtain ⟨adK, adV, hZ0⟩ := ty_Z0 hts hgv
  obtain ⟨sa, hsa1, hsa2⟩ : ∃ sa : Nat → Nat, (∀ i, i < 2 → sa i = adK i ∧ sa (i + 2) = adV i) ∧ ∀ i : Nat, ((sa (1000 + i) : Nat) : Int) - 2147483648 = (xs i).toInt := by
    refine ⟨fun i => if i < 2 then adK i else if i < 4 then adV (i - 2) else ex_u (xs (i - 1000)), fun i hi => ⟨if_pos hi, ?_⟩, fun i => ?_⟩
    · show (if i + 2 < 2 then adK (i + 2) else if i + 2 < 4 then adV (i + 2 - 2) else ex_u (xs (i + 2 - 1000))) = adV i
      rw [if_neg (by omega), if_pos (by omega), show i + 2 - 2 = i by omega]
    · show (((if 1000 + i < 2 then adK (1000 + i) else if 1000 + i < 4 then adV (1000 + i - 2) else ex_u (xs (1000 + i - 1000))) : Nat) : Int) - 2147483648 = (xs i).toInt
      rw [if_neg (by omega), if_neg (by omega), show 1000 + i - 1000 = i by omega]
      have := ex_u_int (xs i)
      omega
  have Z := hZ0 sa hsa1
  have Gx : ex_G p l e room_1 s m #[Value.ref b] below meth c (lw_Z below #[Value.ref b] s) (dC, dI) xs b (fun q : Nat => s.heap.size ≤ q) 4 [] [] ex_p_L_law ex_en0 (ex_at0 18) := by
    intro pc ls xs' ws tys H locs hh hsub hR
    obtain ⟨q, r, e0, e1⟩ := hh
    have hpc : pc = 18 := by
      have h := ty_jp18
      have e0 : ex_jp ex_p_L_law 18 = q :: r := e0
      rw [e0] at h
      exact e1.symm.trans (ex_beq h)
    subst hpc
    obtain ⟨⟨lw, hl1, hl2⟩, her, hsr, hhr, hK', hP', hD', hS', hxt, htys⟩ := id hR
    have hxs : xs' = [] := ex_sr_nil hsr
    subst hxs
    have hhr : ex_hr xs b tys ws ex_h 533 := hhr
    have hE := ty_entry (k1 := 533) (k2 := 26108) (p := p) (l := l) (en := e) (R := room_1) (s := s) (m := m) (args := #[Value.ref b]) (below := below) (meth := meth) (c := c) (Q := lw_Z below #[Value.ref b] s) (D := (dC, dI)) (b := b) (sa := sa) (A := fun q : Nat => s.heap.size ≤ q) (w0 := ws) (tys := tys) (ty_run_ok ty_gw ty_hmt ty_lcok 100000) (M := ty_lawM) (ty_lawPO2 meth.name) X1 Z ⟨by decide, by decide⟩ (n0 := 1) (ρc := fun _ => (L : Int)) (fun _ => ⟨⟨rfl, by decide, by omega⟩, hsa2⟩) ty_lT (fun x hx' nr ρ _ _ => ty_lend_ok hx hb hr hlocks hx') ty_lE
    have hne : ex_jp ty_p_L_law 18 ≠ [] := hE.1
    have hRt : ty_Rl s (dC, dI) b sa (fun q : Nat => s.heap.size ≤ q) 4 1 ws tys ty_lmo (fun _ => (L : Int)) ty_le0 ty_llv [] ty_lK ls [] ws H locs := by
      refine ⟨⟨lw, hl1, ?_⟩, ?_, trivial, ty_K0 hhr, ty_th0 hhr, ty_frm.rf, Nat.le_refl _, hK', hP', hD', hS', ex_xt.rf⟩
      · exact ty_lr0 hl2
      · refine ⟨ty_bd_cons (fun i => ?_) (by omega) (by omega), fun c hc => by cases hc⟩
        show (-9223372036854775808 : Int) ≤ (L : Int) ∧ (L : Int) ≤ 9223372036854775807
        omega
    exact hE.2 (fun _ => (L : Int)) (fun _ _ => rfl) 18 ls [] ws H locs (ex_jp_sub.2.resolve_left hne) (show ∀ q ∈ ex_jp ty_p_L_law 18, q ∈ ty_p_L_law from ex_jp_sub.1) hRt
  have G0 : ex_G p l e room_1 s m #[Value.ref b] below meth c (lw_Z below #[Value.ref b] s) (dC, dI) xs b (fun q : Nat => s.heap.size ≤ q) 4 [] [] ex_p_L_law ex_en0 ex_s0 := by
    have h1 := ex_r1
    unfold ex_is1 at h1
    split at h1
    · rename_i o ho
      exact (ex_run_ok (mt := ex_mt) (mi := ex_mi) (df := ex_df) (L := 0) (l := l) ex_gwp ex_gdp ex_hmt 20000 18 20 false ex_law ex_en0 ex_s0 o ho RL meth.name code (some .boolean) (ex_lawPO2 meth.name) p e room_1 s m #[Value.ref b] below meth c (lw_Z below #[Value.ref b] s) (dC, dI) xs b (fun q : Nat => s.heap.size ≤ q) [] [] X0 (fun y hy => ex_G_le (ex_every_ok h1 y hy) ty_jpne Gx)).2
    · cases h1
  have hl := lv_entry ([.ref b]) (n := 4) (Nat.le_of_ble_eq_true rfl)
  rw [lg_entry_eq]
  obtain ⟨q, r, hq, hq0⟩ : ∃ q r, ex_p_L_law = q :: r ∧ q.1 = 0 := ⟨_, _, rfl, rfl⟩
  exact G0 0 _ [] [] [] s.heap [] ⟨q, r, hq, hq0⟩ (fun q h => h) ⟨⟨_, hl, (show ex_lr xs b [] [(0, ex_z)] [(0, .ref b)] from ⟨⟨rfl, rfl⟩, trivial⟩)⟩, ex_en0_ok xs, trivial, ⟨rfl, fun k c hk => by cases (show none = some c from hk)⟩, hK, hP, hD, va_S.rf, ex_xt.rf, fun _ h => h⟩
