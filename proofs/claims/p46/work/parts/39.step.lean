/-! a step is sound -/
theorem ty_b8 (x : Int32) : -128 ≤ x.toInt8.toInt32.toInt ∧ x.toInt8.toInt32.toInt ≤ 127 ∧ (-128 ≤ x.toInt → x.toInt ≤ 127 → x.toInt8.toInt32 = x) := by
  have e : x.toInt8.toInt32.toInt = x.toInt.bmod 256 := by rw [Int8.toInt_toInt32, Int32.toInt_toInt8]
  have e2 : x.toInt.bmod 256 = if x.toInt % 256 < 128 then x.toInt % 256 else x.toInt % 256 - 256 := Int.bmod_def _ _
  rw [e2] at e
  refine ⟨by split at e <;> omega, by split at e <;> omega, fun h1 h2 => Int32.toInt_inj.mp ?_⟩
  split at e <;> omega
theorem ty_c16 (x : Int32) : 0 ≤ (x.toUInt32 % 65536).toInt32.toInt ∧ (x.toUInt32 % 65536).toInt32.toInt ≤ 65535 ∧ (0 ≤ x.toInt → x.toInt ≤ 65535 → (x.toUInt32 % 65536).toInt32 = x) := by
  have e : (x.toUInt32 % 65536).toInt32.toBitVec.toNat = x.toBitVec.toNat % 65536 := by
    show (x.toUInt32 % 65536).toNat = _
    rw [UInt32.toNat_mod]
    rfl
  have n1 := ty_N x
  have n2 := ty_N (x.toUInt32 % 65536).toInt32
  have r2 := ty_rg (x.toUInt32 % 65536).toInt32
  have l1 : x.toBitVec.toNat % 65536 < 65536 := Nat.mod_lt _ (by decide)
  refine ⟨by split at n2 <;> omega, by split at n2 <;> omega, fun h1 h2 => Int32.toInt_inj.mp ?_⟩
  rw [if_pos h1] at n1
  have : x.toBitVec.toNat % 65536 = x.toBitVec.toNat := Nat.mod_eq_of_lt (by omega)
  split at n2 <;> omega
theorem ty_wr_add (x y : Int32) : (x + y).toInt = ty_wr (x.toInt + y.toInt) := by rw [Int32.toInt_add, ty_bm]
theorem ty_kk {n a : Nat} {ρ : Nat → Int} {x : Int32} (h : ex_u x = a) : ty_is n ρ (ty_k ((a : Int) - 2147483648)) x.toInt := by
  have h1 := ex_u_int x
  have : x.toInt = (a : Int) - 2147483648 := by omega
  rw [this]
  exact ty_is_k _ _ _
section TYT
variable {p : Program} {l : Launch} {en : Env} {R : Room} {s : State} {m : MethodId} {args : Array Value} {below : List Frame} {meth : Method} {c : Code} {k1 k2 : Nat} {Q : State → Prop} {D : va_G} {b : Nat} {sa : Nat → Nat} {A : Nat → Prop} {mL nr : Nat} {ρ0 ρ : Nat → Int} {w0 : va_W} {tys : List (ClassId × FieldType)} {ms : ty_M} {pr : List ex_P}
variable {e : ty_E} {lv : ty_L} {st : List ty_V} {K : ty_K} {ls : Array Slot} {xs : List Value} {ws : va_W} {H : Heap} {locs : List Loc} {q : ex_P} {r : List ex_P} {o : List (ty_E × ty_S)}
variable {σ : Nat → Int32} {L d : Nat} {own nm : String} {cd : ByteArray} {cap : Nat × Nat} {isl : Bool}
theorem ty_i2_ok {lo hi : Int} (hs : ty_i2 lo hi q r e lv st K = some o) (hN : ty_NN p l en R s m args below meth c k1 k2 Q D b sa A mL nr ρ0 w0 tys ms pr o) (hsub : ∀ x ∈ q :: r, x ∈ pr) (ha : ty_ag nr ρ0 ρ) (hR : ty_Rl s D b sa A mL nr w0 tys ms ρ e lv st K ls xs ws H locs)
    (row : ∀ (x : Int32) (xr : List Value), ∃ z : Int32, lo ≤ z.toInt ∧ z.toInt ≤ hi ∧ (lo ≤ x.toInt → x.toInt ≤ hi → z = x) ∧ (W p l en R s m args below meth c H locs k1 k2 Q (F0 m (q.1 + q.2.2.1) ls (.int z :: xr)) → W p l en R s m args below meth c H locs k1 k2 Q (F0 m q.1 ls (.int x :: xr)))) : W p l en R s m args below meth c H locs k1 k2 Q (F0 m q.1 ls xs) := by
  unfold ty_i2 at hs
  split at hs
  · rename_i ta rest
    obtain ⟨x, xr, rfl, ⟨y, rfl, hy⟩, hr⟩ := ty_sr_cons hR.sr
    obtain ⟨z, z1, z2, z3, z4⟩ := row y xr
    rcases ex_bif (P := fun z => z = some o) hs with ⟨h1, h2⟩ | ⟨h1, h2⟩
    · have hb := ty_in_ok hR.er h1
      rw [hy.2] at hb
      have := z3 hb.1 hb.2
      subst this
      exact z4 (ty_ft_ok h2 hN hsub ha hR)
    · obtain ⟨ρ', a1, a2, a3, a4⟩ := ty_res0 hR.er z1 z2
      exact z4 (ty_ft_ok h2 hN hsub (ha.tr a1 hR.nle) (((hR.stk hr).env a1 a3 a2).push ⟨z, rfl, a4⟩))
  · cases hs
theorem ty_lb_ok (hs : ty_lb q r e lv st K = some o) (hN : ty_NN p l en R s m args below meth c k1 k2 Q D b sa A mL nr ρ0 w0 tys ms pr o) (hsub : ∀ x ∈ q :: r, x ∈ pr) (ha : ty_ag nr ρ0 ρ) (hR : ty_Rl s D b sa A mL nr w0 tys ms ρ e lv st K ls xs ws H locs)
    (row : ∀ (x y : Int64) (xr : List Value), ∃ z : Int64, (W p l en R s m args below meth c H locs k1 k2 Q (F0 m (q.1 + q.2.2.1) ls (.long z :: xr)) → W p l en R s m args below meth c H locs k1 k2 Q (F0 m q.1 ls (.long y :: .long x :: xr)))) : W p l en R s m args below meth c H locs k1 k2 Q (F0 m q.1 ls xs) := by
  unfold ty_lb at hs
  split at hs
  · rename_i tb ta rest
    obtain ⟨x0, x1, rfl, ⟨y, rfl, hy⟩, hr1⟩ := ty_sr_cons hR.sr
    obtain ⟨x2, x3, rfl, ⟨x, rfl, hx⟩, hr⟩ := ty_sr_cons hr1
    obtain ⟨z, hz⟩ := row x y x3
    obtain ⟨ρ', a1, a2, a3, a4⟩ := ty_res0 hR.er (ty_lg z).1 (ty_lg z).2
    exact hz (ty_ft_ok hs hN hsub (ha.tr a1 hR.nle) (((hR.stk hr).env a1 a3 a2).push (v := ty_j (ty_s e.1)) ⟨z, rfl, a4⟩))
  · cases hs
def ty_GW : Prop := (Cond.native arraycopyName ∈ ex_tb ∧ Cond.static arraycopyName ∈ ex_tb ∧ Cond.initialized "java/lang/System" ∈ ex_tb) ∧ Cond.initialized "java/lang/Math" ∈ ex_tb ∧ (Cond.static Lib.Math.max.name ∈ ex_tb ∧ Cond.code Lib.Math.max.name Lib.Math.max.code 2 (some .int) ∈ ex_tb) ∧ (Cond.static Lib.Math.min.name ∈ ex_tb ∧ Cond.code Lib.Math.min.name Lib.Math.min.code 2 (some .int) ∈ ex_tb)
theorem ty_mm_ok {mx : Bool} {pc ix a1 a2 a3 : Nat} {ts : List Nat} (hd : 60 * (d + 1) ≤ R.locals)
    (row : ∀ (x y : Int32) (xr : List Value), (xr.map fun v => v.category).sum + 13 ≤ R.locals → W p l en R s m args below meth c H locs k1 k2 Q (F0 m (pc + 3) ls (.int (if (if mx = true then x else y) < (if mx = true then y else x) then y else x) :: xr)) → W p l en R s m args below meth c H locs k1 k2 Q (F0 m pc ls (.int y :: .int x :: xr)))
    (hs : ty_mm mx (pc, .invokestatic ix, 3, a1, a2, a3, ts) r e lv st K = some o) (hN : ty_NN p l en R s m args below meth c k1 k2 Q D b sa A mL nr ρ0 w0 tys ms pr o) (hsub : ∀ x ∈ (pc, Instr.invokestatic ix, 3, a1, a2, a3, ts) :: r, x ∈ pr) (ha : ty_ag nr ρ0 ρ) (hR : ty_Rl s D b sa A mL nr w0 tys ms ρ e lv st K ls xs ws H locs) : W p l en R s m args below meth c H locs k1 k2 Q (F0 m pc ls xs) := by
  unfold ty_mm at hs
  split at hs
  · rename_i b0 a0 rest
    cases r with
    | nil => cases hs
    | cons q' r' =>
      obtain ⟨h1, h2⟩ := ex_bifs hs
      obtain ⟨h1, h3⟩ := ex_and h1
      have h1 : q'.1 = pc + 3 := ex_beq h1
      have h3 := ex_ble h3
      rw [ex_len_eq] at h3
      injection h2 with h2
      subst h2
      obtain ⟨x1, xr1, rfl, ⟨y, rfl, hy⟩, hr1⟩ := ty_sr_cons hR.sr
      obtain ⟨x2, xr, rfl, ⟨x, rfl, hx⟩, hr⟩ := ty_sr_cons hr1
      have hsum := ty_sum_le hr
      refine row x y xr (by omega) ?_
      rw [ex_app_eq, ex_map_eq, ex_map_eq] at hN
      have fin : ∀ (e' : ty_E) (v : ty_t) (z : Int32), (e', ((q' :: r', lv, ty_i v :: rest, K) : ty_S)) ∈ List.map (fun e => (e, ((q' :: r', lv, ty_i b0 :: rest, K) : ty_S))) (ty_br .lt e (bif mx then a0 else b0) (bif mx then b0 else a0)).1 ++ List.map (fun e => (e, ((q' :: r', lv, ty_i a0 :: rest, K) : ty_S))) (ty_br .lt e (bif mx then a0 else b0) (bif mx then b0 else a0)).2 → ty_er ρ e' → e'.1 = e.1 → ty_is e.1 ρ v z.toInt → W p l en R s m args below meth c H locs k1 k2 Q (F0 m (pc + 3) ls (.int z :: xr)) := fun e' v z hm he hn hv =>
        (hN _ hm).2 ρ ha (pc + 3) ls (.int z :: xr) ws H locs ⟨q', r', rfl, h1⟩ (fun w hw => hsub w (List.mem_cons_of_mem _ hw)) ((hR.stk (st' := ty_i v :: rest) (xs' := .int z :: xr) ⟨⟨z, rfl, hv⟩, hr⟩).nar hn he)
      cases mx with
      | true =>
        obtain ⟨j1, j2⟩ := ty_br_ok hR.er (c := .lt) hx.1 hy.1
        show W p l en R s m args below meth c H locs k1 k2 Q (F0 m (pc + 3) ls (.int (if x < y then y else x) :: xr))
        by_cases hc : x < y
        · rw [if_pos hc]
          obtain ⟨e', m1, m2, m3⟩ := j1 (by rw [hx.2, hy.2]; exact Int32.lt_iff_toInt_lt.mp hc)
          exact fin e' b0 y (List.mem_append_left _ (List.mem_map.mpr ⟨e', m1, rfl⟩)) m2 m3 hy
        · rw [if_neg hc]
          obtain ⟨e', m1, m2, m3⟩ := j2 (by rw [hx.2, hy.2]; exact fun z => hc (Int32.lt_iff_toInt_lt.mpr z))
          exact fin e' a0 x (List.mem_append_right _ (List.mem_map.mpr ⟨e', m1, rfl⟩)) m2 m3 hx
      | false =>
        obtain ⟨j1, j2⟩ := ty_br_ok hR.er (c := .lt) hy.1 hx.1
        show W p l en R s m args below meth c H locs k1 k2 Q (F0 m (pc + 3) ls (.int (if y < x then y else x) :: xr))
        by_cases hc : y < x
        · rw [if_pos hc]
          obtain ⟨e', m1, m2, m3⟩ := j1 (by rw [hx.2, hy.2]; exact Int32.lt_iff_toInt_lt.mp hc)
          exact fin e' b0 y (List.mem_append_left _ (List.mem_map.mpr ⟨e', m1, rfl⟩)) m2 m3 hy
        · rw [if_neg hc]
          obtain ⟨e', m1, m2, m3⟩ := j2 (by rw [hx.2, hy.2]; exact fun z => hc (Int32.lt_iff_toInt_lt.mpr z))
          exact fin e' a0 x (List.mem_append_right _ (List.mem_map.mpr ⟨e', m1, rfl⟩)) m2 m3 hx
  · cases hs
set_option maxHeartbeats 4000000 in
theorem ty_step_ok (hgw : ty_GW) (hkc : k1 ≤ R.cells ∧ k2 ≤ R.slots) (X : ex_X p R s m args meth c σ b L A own nm cd mL d cap isl) (hL : isl = true → (ρ0 0 = (L : Int) ∧ 0 < nr ∧ L < 2147483648) ∧ ∀ i : Nat, ((sa (1000 + i) : Nat) : Int) - 2147483648 = (σ i).toInt) (hns : ty_str q st = false) (hk : ty_pk own nm q = true) (hdg : decode cd q.1 = .ok (q.2.1, q.2.2.1))
    (hs : ty_step pr isl mL ms e q r lv st K = some o) (hN : ty_NN p l en R s m args below meth c k1 k2 Q D b sa A mL nr ρ0 w0 tys ms pr o) (hsub : ∀ x ∈ q :: r, x ∈ pr) (ha : ty_ag nr ρ0 ρ) (hR : ty_Rl s D b sa A mL nr w0 tys ms ρ e lv st K ls xs ws H locs) : W p l en R s m args below meth c H locs k1 k2 Q (F0 m q.1 ls xs) := by
  obtain ⟨x1, x2, x3, x4, x5, x6, x7, x8, x9, x10, x11, x12, x13⟩ := id X
  obtain ⟨pc, ins, len, a1, a2, a3, ts⟩ := q
  have hdg : decode cd pc = .ok (ins, len) := hdg
  cases ins with
  | iconst i =>
    obtain ⟨e1, e2⟩ := ex_and hk
    cases ex_beq e1
    exact lv_iconst x1 x2 hdg rfl (ty_ft_ok hs hN hsub ha (hR.push ⟨_, rfl, ty_kk (ex_beq e2)⟩))
  | bipush i =>
    obtain ⟨e1, e2⟩ := ex_and hk
    cases ex_beq e1
    exact lv_bipush x1 x2 hdg rfl (ty_ft_ok hs hN hsub ha (hR.push ⟨_, rfl, ty_kk (ex_beq e2)⟩))
  | sipush i =>
    obtain ⟨e1, e2⟩ := ex_and hk
    cases ex_beq e1
    exact lv_sipush x1 x2 hdg rfl (ty_ft_ok hs hN hsub ha (hR.push ⟨_, rfl, ty_kk (ex_beq e2)⟩))
  | ldc i =>
    have hns : Nat.beq a3 9 = false := hns
    have hk : (bif Nat.beq a3 9 then Nat.beq len 2 && decide (ty_sk a1 = (own, i)) else ex_pk own nm (pc, .ldc i, len, a1, a2, a3, ts)) = true := hk
    rw [hns] at hk
    obtain ⟨e1, e3⟩ := ex_and hk
    obtain ⟨e1, e2⟩ := ex_and e1
    cases ex_beq e1
    exact lv_ldc x1 x2 x4 (x5 _ (ex_wd_ok e3)) hdg (ty_ft_ok hs hN hsub ha (hR.push ⟨_, rfl, ty_kk (ex_beq e2)⟩))
  | ldc_w i =>
    obtain ⟨e1, e3⟩ := ex_and hk
    obtain ⟨e1, e2⟩ := ex_and e1
    cases ex_beq e1
    exact lv_ldcw x1 x2 x4 (x5 _ (ex_wd_ok e3)) hdg (ty_ft_ok hs hN hsub ha (hR.push ⟨_, rfl, ty_kk (ex_beq e2)⟩))
  | ldc2_w i =>
    obtain ⟨e1, e3⟩ := ex_and hk
    obtain ⟨e1, e2⟩ := ex_and e1
    cases ex_beq e1
    have e2 := of_decide_eq_true e2
    exact lv_ldc2 x1 x2 x4 (x5 _ (ex_wd_ok e3)) hdg (ty_ft_ok hs hN hsub ha (hR.push (v := ty_j (ty_k (a1 : Int))) ⟨_, rfl, by rw [e2]; exact ty_is_k _ _ _⟩))
  | lconst k =>
    obtain ⟨e1, e3⟩ := ex_and hk
    obtain ⟨e1, e2⟩ := ex_and e1
    cases ex_beq e1
    have e3 := of_decide_eq_true e3
    exact lv_lconst x1 x2 hdg (by rw [ex_beq e2]) (ty_ft_ok hs hN hsub ha (hR.push (v := ty_j (ty_k (a1 : Int))) ⟨_, rfl, by rw [e3]; exact ty_is_k _ _ _⟩))
  | iload_n k =>
    obtain ⟨e1, e2⟩ := ex_and hk
    cases ex_beq e1
    refine ty_ld_ok hs hN hsub ha hR (fun v x ok hv hl W1 => ?_)
    obtain ⟨y, rfl⟩ := ty_isI_ok hv ok
    exact lv_iload_n x1 x2 hdg (ex_beq e2) hl W1
  | iload k =>
    obtain ⟨e1, e2⟩ := ex_and hk
    cases ex_beq e1
    cases ex_beq e2
    refine ty_ld_ok hs hN hsub ha hR (fun v x ok hv hl W1 => ?_)
    obtain ⟨y, rfl⟩ := ty_isI_ok hv ok
    exact lv_iload x1 x2 hdg hl W1
  | lload_n k =>
    obtain ⟨e1, e2⟩ := ex_and hk
    cases ex_beq e1
    refine ty_ld_ok hs hN hsub ha hR (fun v x ok hv hl W1 => ?_)
    obtain ⟨y, rfl⟩ := ty_isJ_ok hv ok
    exact lv_lload_n x1 x2 hdg (ex_beq e2) hl W1
  | lload k =>
    obtain ⟨e1, e2⟩ := ex_and hk
    cases ex_beq e1
    cases ex_beq e2
    refine ty_ld_ok hs hN hsub ha hR (fun v x ok hv hl W1 => ?_)
    obtain ⟨y, rfl⟩ := ty_isJ_ok hv ok
    exact lv_lload x1 x2 hdg hl W1
  | aload_n k =>
    obtain ⟨e1, e2⟩ := ex_and hk
    cases ex_beq e1
    refine ty_ld_ok hs hN hsub ha hR (fun v x ok hv hl W1 => ?_)
    obtain ⟨y, rfl⟩ := ty_isR_ok hv ok
    exact lv_aload_n x1 x2 hdg (ex_beq e2) hl W1
  | aload k =>
    obtain ⟨e1, e2⟩ := ex_and hk
    cases ex_beq e1
    cases ex_beq e2
    refine ty_ld_ok hs hN hsub ha hR (fun v x ok hv hl W1 => ?_)
    obtain ⟨y, rfl⟩ := ty_isR_ok hv ok
    exact lv_aload x1 x2 hdg hl W1
  | istore_n k =>
    obtain ⟨e1, e2⟩ := ex_and hk
    cases ex_beq e1
    refine ty_st_ok hs hN hsub ha hR (fun v x xr lw ok hv hl hn W1 => ?_)
    obtain ⟨y, rfl⟩ := ty_isI_ok hv ok
    exact lv_istore_n x1 x2 hdg (ex_beq e2) hl hn rfl W1
  | istore k =>
    obtain ⟨e1, e2⟩ := ex_and hk
    cases ex_beq e1
    cases ex_beq e2
    refine ty_st_ok hs hN hsub ha hR (fun v x xr lw ok hv hl hn W1 => ?_)
    obtain ⟨y, rfl⟩ := ty_isI_ok hv ok
    exact lv_istore x1 x2 hdg hl hn rfl W1
  | lstore_n k =>
    obtain ⟨e1, e2⟩ := ex_and hk
    cases ex_beq e1
    exact ty_st2_ok hs hN hsub ha hR (fun x xr lw hl hn W1 => lv_lstore_n x1 x2 hdg (ex_beq e2) hl hn rfl W1)
  | lstore k =>
    obtain ⟨e1, e2⟩ := ex_and hk
    cases ex_beq e1
    cases ex_beq e2
    exact ty_st2_ok hs hN hsub ha hR (fun x xr lw hl hn W1 => lv_lstore x1 x2 hdg hl hn rfl W1)
  | astore_n k =>
    obtain ⟨e1, e2⟩ := ex_and hk
    cases ex_beq e1
    refine ty_st_ok hs hN hsub ha hR (fun v x xr lw ok hv hl hn W1 => ?_)
    obtain ⟨y, rfl⟩ := ty_isR_ok hv ok
    exact lv_astore_n x1 x2 hdg (ex_beq e2) hl hn rfl W1
  | astore k =>
    obtain ⟨e1, e2⟩ := ex_and hk
    cases ex_beq e1
    cases ex_beq e2
    refine ty_st_ok hs hN hsub ha hR (fun v x xr lw ok hv hl hn W1 => ?_)
    obtain ⟨y, rfl⟩ := ty_isR_ok hv ok
    exact lv_astore x1 x2 hdg hl hn rfl W1
  | iinc k i =>
    obtain ⟨e1, e3⟩ := ex_and hk
    obtain ⟨e1, e2⟩ := ex_and e1
    cases ex_beq e1
    cases ex_beq e2
    have e3 := ex_beq e3
    have hs : ty_iinc mL (pc, .iinc a1 i, 3, a1, a2, a3, ts) r e lv st K = some o := hs
    unfold ty_iinc at hs
    split at hs
    · rename_i t hv
      obtain ⟨g1, g2⟩ := ex_bifs hs
      obtain ⟨lw, hl, hlr⟩ := hR.1
      obtain ⟨j, x, f1, y, rfl, f2⟩ := ty_lr_lk hlr hv
      have hz : (y + Int32.ofInt i).toInt = ty_wr (y.toInt + (bif Nat.ble 2147483648 a2 then (a2 : Int) - 4294967296 else (a2 : Int))) := by
        have n1 := ty_N (Int32.ofInt i)
        rw [e3] at n1
        have r1 := ty_rg (Int32.ofInt i)
        have hd : (Int32.ofInt i).toInt = (bif Nat.ble 2147483648 a2 then (a2 : Int) - 4294967296 else (a2 : Int)) := by
          cases hb : Nat.ble 2147483648 a2 with
          | true =>
            have := ex_ble hb
            show _ = (a2 : Int) - 4294967296
            split at n1 <;> omega
          | false =>
            have : ¬ 2147483648 ≤ a2 := fun h => by rw [Nat.ble_eq_true_of_le h] at hb; cases hb
            show _ = (a2 : Int)
            split at n1 <;> omega
        rw [← hd]
        exact ty_wr_add y (Int32.ofInt i)
      obtain ⟨ρ', b1, b2, b3, b4⟩ := ty_ok_ok hR.er (ty_is_pl f2 (bif Nat.ble 2147483648 a2 then (a2 : Int) - 4294967296 else (a2 : Int))) hz
      refine lv_iinc x1 x2 hdg hl f1 rfl (ex_blt g1) rfl (fun ls' hl' => ?_)
      have hR' := hR.env b1 b3 b2
      exact ty_ft_ok g2 hN hsub (ha.tr b1 hR.nle) (hR'.loc (lv' := (a1, ty_i (ty_ok e (ty_pl t (bif Nat.ble 2147483648 a2 then (a2 : Int) - 4294967296 else (a2 : Int)))).2) :: ty_del lv a1) ⟨_, hl', (show ty_lr b sa _ ρ' ws ((a1, ty_i (ty_ok e (ty_pl t (bif Nat.ble 2147483648 a2 then (a2 : Int) - 4294967296 else (a2 : Int)))).2) :: ty_del lv a1) ((a1, .int (y + Int32.ofInt i)) :: ex_flt a1 lw) from ⟨⟨rfl, _, rfl, b4⟩, ty_lr_del _ (hlr.mono b1 b3 ex_xt.rf)⟩)⟩)
    · cases hs
  | iadd =>
    cases ex_beq hk
    exact ty_bin_ok hs hN hsub ha hR (fun x y rest => ⟨_, rfl, fun hz W1 => lv_iadd x1 x2 hdg W1⟩)
  | isub =>
    cases ex_beq hk
    exact ty_bin_ok hs hN hsub ha hR (fun x y rest => ⟨_, rfl, fun hz W1 => lv_isub x1 x2 hdg W1⟩)
  | imul =>
    cases ex_beq hk
    exact ty_bin_ok hs hN hsub ha hR (fun x y rest => ⟨_, rfl, fun hz W1 => lv_imul x1 x2 hdg W1⟩)
  | iand =>
    cases ex_beq hk
    exact ty_bin_ok hs hN hsub ha hR (fun x y rest => ⟨_, rfl, fun hz W1 => lv_iand x1 x2 hdg W1⟩)
  | ior =>
    cases ex_beq hk
    exact ty_bin_ok hs hN hsub ha hR (fun x y rest => ⟨_, rfl, fun hz W1 => lv_ior x1 x2 hdg W1⟩)
  | ixor =>
    cases ex_beq hk
    exact ty_bin_ok hs hN hsub ha hR (fun x y rest => ⟨_, rfl, fun hz W1 => lv_ixor x1 x2 hdg W1⟩)
  | ishl =>
    cases ex_beq hk
    exact ty_bin_ok hs hN hsub ha hR (fun x y rest => ⟨_, rfl, fun hz W1 => lv_ishl x1 x2 hdg W1⟩)
  | ishr =>
    cases ex_beq hk
    exact ty_bin_ok hs hN hsub ha hR (fun x y rest => ⟨_, rfl, fun hz W1 => lv_ishr x1 x2 hdg W1⟩)
  | iushr =>
    cases ex_beq hk
    exact ty_bin_ok hs hN hsub ha hR (fun x y rest => ⟨_, rfl, fun hz W1 => lv_iushr x1 x2 hdg rfl W1⟩)
  | idiv =>
    cases ex_beq hk
    exact ty_bin_ok hs hN hsub ha hR (fun x y rest => ⟨_, rfl, fun hz W1 => lv_idiv x1 x2 hdg (hz (Or.inl rfl)) W1⟩)
  | irem =>
    cases ex_beq hk
    exact ty_bin_ok hs hN hsub ha hR (fun x y rest => ⟨_, rfl, fun hz W1 => lv_irem x1 x2 hdg (hz (Or.inr rfl)) W1⟩)
  | i2b =>
    cases ex_beq hk
    exact ty_i2_ok hs hN hsub ha hR (fun x xr => ⟨_, (ty_b8 x).1, (ty_b8 x).2.1, (ty_b8 x).2.2, fun W1 => lv_i2b x1 x2 hdg rfl W1⟩)
  | i2c =>
    cases ex_beq hk
    exact ty_i2_ok hs hN hsub ha hR (fun x xr => ⟨_, (ty_c16 x).1, (ty_c16 x).2.1, (ty_c16 x).2.2, fun W1 => lv_i2c x1 x2 hdg rfl W1⟩)
  | i2l =>
    cases ex_beq hk
    have hs : ty_i2l (pc, .i2l, 1, a1, a2, a3, ts) r e lv st K = some o := hs
    unfold ty_i2l at hs
    split at hs
    · obtain ⟨x, xr, rfl, ⟨y, rfl, hy⟩, hr⟩ := ty_sr_cons hR.sr
      exact lv_i2l x1 x2 hdg rfl (ty_ft_ok hs hN hsub ha ((hR.stk hr).push ⟨y.toInt64, rfl, by rw [Int32.toInt_toInt64]; exact hy⟩))
    · cases hs
  | l2i =>
    cases ex_beq hk
    have hs : ty_l2i (pc, .l2i, 1, a1, a2, a3, ts) r e lv st K = some o := hs
    unfold ty_l2i at hs
    split at hs
    · obtain ⟨x, xr, rfl, ⟨y, rfl, hy⟩, hr⟩ := ty_sr_cons hR.sr
      obtain ⟨ρ', b1, b2, b3, b4⟩ := ty_res0 hR.er (ty_rg y.toInt32).1 (ty_rg y.toInt32).2
      exact lv_l2i x1 x2 hdg rfl (ty_ft_ok hs hN hsub (ha.tr b1 hR.nle) (((hR.stk hr).env b1 b3 b2).push ⟨_, rfl, b4⟩))
    · cases hs
  | ladd =>
    cases ex_beq hk
    exact ty_lb_ok hs hN hsub ha hR (fun x y xr => ⟨_, fun W1 => lv_ladd x1 x2 hdg W1⟩)
  | lmul =>
    cases ex_beq hk
    exact ty_lb_ok hs hN hsub ha hR (fun x y xr => ⟨_, fun W1 => lv_lmul x1 x2 hdg W1⟩)
  | lor =>
    cases ex_beq hk
    exact ty_lb_ok hs hN hsub ha hR (fun x y xr => ⟨_, fun W1 => lv_lor x1 x2 hdg W1⟩)
  | lshl =>
    cases ex_beq hk
    have hs : ty_lsh (pc, .lshl, 1, a1, a2, a3, ts) r e lv st K = some o := hs
    unfold ty_lsh at hs
    split at hs
    · obtain ⟨w0, w1, rfl, ⟨y, rfl, hy⟩, hr1⟩ := ty_sr_cons hR.sr
      obtain ⟨w2, w3, rfl, ⟨x, rfl, hx⟩, hr⟩ := ty_sr_cons hr1
      obtain ⟨ρ', b1, b2, b3, b4⟩ := ty_res0 hR.er (ty_lg (x <<< (y.toInt64 &&& 63))).1 (ty_lg (x <<< (y.toInt64 &&& 63))).2
      exact lv_lshl x1 x2 hdg rfl (ty_ft_ok hs hN hsub (ha.tr b1 hR.nle) (((hR.stk hr).env b1 b3 b2).push (v := ty_j (ty_s e.1)) ⟨_, rfl, b4⟩))
    · cases hs
  | lcmp =>
    cases ex_beq hk
    have hs : ty_lc (pc, .lcmp, 1, a1, a2, a3, ts) r e lv st K = some o := hs
    unfold ty_lc at hs
    split at hs
    · obtain ⟨w0, w1, rfl, ⟨y, rfl, hy⟩, hr1⟩ := ty_sr_cons hR.sr
      obtain ⟨w2, w3, rfl, ⟨x, rfl, hx⟩, hr⟩ := ty_sr_cons hr1
      exact W.lcmp x1 x2 hdg (ty_ft_ok hs hN hsub ha ((hR.stk hr).push ⟨x, y, rfl, hx, hy⟩))
    · cases hs
  | dup =>
    cases ex_beq hk
    cases st with
    | nil => cases (show none = some o from hs)
    | cons v rest =>
      obtain ⟨g1, g2⟩ := ex_bifs (show (bif Nat.beq (ty_cat v) 1 then ty_ft (pc, .dup, 1, a1, a2, a3, ts) r e lv (v :: v :: rest) K else none) = some o from hs)
      obtain ⟨x, xr, rfl, hvr, hr⟩ := ty_sr_cons hR.sr
      exact lv_dup x1 x2 hdg ((ty_cat_ok hvr).trans (ex_beq g1)) (ty_ft_ok g2 hN hsub ha (hR.stk ⟨hvr, hvr, hr⟩))
  | dup2 =>
    cases ex_beq hk
    match st, hs, hR with
    | [], hs, hR => cases (show none = some o from hs)
    | [v], hs, hR => cases (show none = some o from hs)
    | v :: w :: rest, hs, hR =>
      obtain ⟨g1, g2⟩ := ex_bifs (show (bif Nat.beq (ty_cat v) 1 && Nat.beq (ty_cat w) 1 then ty_ft (pc, .dup2, 1, a1, a2, a3, ts) r e lv (v :: w :: v :: w :: rest) K else none) = some o from hs)
      obtain ⟨g1, g3⟩ := ex_and g1
      obtain ⟨x, xr, rfl, hvr, hr⟩ := ty_sr_cons hR.sr
      obtain ⟨x', xr', rfl, hvr', hr'⟩ := ty_sr_cons hr
      exact lv_dup2_11 x1 x2 hdg ((ty_cat_ok hvr).trans (ex_beq g1)) ((ty_cat_ok hvr').trans (ex_beq g3)) (ty_ft_ok g2 hN hsub ha (hR.stk ⟨hvr, hvr', hvr, hvr', hr'⟩))
  | pop =>
    cases ex_beq hk
    cases st with
    | nil => cases (show none = some o from hs)
    | cons v rest =>
      obtain ⟨g1, g2⟩ := ex_bifs (show (bif Nat.beq (ty_cat v) 1 then ty_ft (pc, .pop, 1, a1, a2, a3, ts) r e lv rest K else none) = some o from hs)
      obtain ⟨x, xr, rfl, hvr, hr⟩ := ty_sr_cons hR.sr
      exact lv_pop x1 x2 hdg ((ty_cat_ok hvr).trans (ex_beq g1)) (ty_ft_ok g2 hN hsub ha (hR.stk hr))
  | goto off =>
    obtain ⟨e1, e2⟩ := ex_and hk
    cases ex_beq e1
    have hs : some [(e, (ex_jp pr a1, lv, st, K))] = some o := hs
    cases hs
    exact lv_goto x1 x2 hdg (of_decide_eq_true e2) (ty_jp_ok (hN _ (List.mem_singleton.mpr rfl)) ha hR)
  | ifCond cn off =>
    obtain ⟨e1, e2⟩ := ex_and hk
    cases ex_beq e1
    obtain ⟨y, xr, rfl, kt, kf⟩ := ty_if1_ok (q := (pc, .ifCond cn off, 3, a1, a2, a3, ts)) hs hN hsub ha hR
    cases cn with
    | eq => exact lv_if_eq x1 x2 hdg (of_decide_eq_true e2) kt kf
    | ne => exact lv_if_ne x1 x2 hdg (of_decide_eq_true e2) kt (fun z => kf (fun w => w z))
    | lt => exact lv_if_lt x1 x2 hdg (of_decide_eq_true e2) kt kf
    | ge => exact lv_if_ge x1 x2 hdg (of_decide_eq_true e2) (fun z => kt (ex_nlt.mpr z)) (fun z => kf (fun w => z (ex_nlt.mp w)))
    | gt => exact lv_if_gt x1 x2 hdg (of_decide_eq_true e2) kt kf
    | le => exact lv_if_le x1 x2 hdg (of_decide_eq_true e2) (fun z => kt (ex_nlt.mpr z)) (fun z => kf (fun w => z (ex_nlt.mp w)))
  | if_icmp cn off =>
    obtain ⟨e1, e2⟩ := ex_and hk
    cases ex_beq e1
    obtain ⟨y', y, xr, rfl, kt, kf⟩ := ty_if2_ok (q := (pc, .if_icmp cn off, 3, a1, a2, a3, ts)) hs hN hsub ha hR
    cases cn with
    | eq => exact lv_icmp_eq x1 x2 hdg (of_decide_eq_true e2) kt kf
    | ne => exact lv_icmp_ne x1 x2 hdg (of_decide_eq_true e2) kt (fun z => kf (fun w => w z))
    | lt => exact lv_icmp_lt x1 x2 hdg (of_decide_eq_true e2) kt kf
    | ge => exact lv_icmp_ge x1 x2 hdg (of_decide_eq_true e2) (fun z => kt (ex_nlt.mpr z)) (fun z => kf (fun w => z (ex_nlt.mp w)))
    | gt => exact lv_icmp_gt x1 x2 hdg (of_decide_eq_true e2) kt kf
    | le => exact lv_icmp_le x1 x2 hdg (of_decide_eq_true e2) (fun z => kt (ex_nlt.mpr z)) (fun z => kf (fun w => z (ex_nlt.mp w)))
  | tableswitch df' lo hi offs =>
    obtain ⟨e1, e4⟩ := ex_and hk
    obtain ⟨e1, e3⟩ := ex_and e1
    obtain ⟨e1, e2⟩ := ex_and e1
    have e1 := of_decide_eq_true e1
    have e2 := of_decide_eq_true e2
    have e3 := of_decide_eq_true e3
    have e4 := of_decide_eq_true e4
    have hs : ty_tsw pr (pc, .tableswitch df' lo hi offs, len, a1, a2, a3, ts) e lv st K = some o := hs
    unfold ty_tsw at hs
    split at hs
    · rename_i ta rest
      injection hs with hs
      subst hs
      rw [ex_app_eq, ex_map_eq] at hN
      obtain ⟨x, xr, rfl, ⟨y, rfl, hy⟩, hr⟩ := ty_sr_cons hR.sr
      obtain ⟨s1, s2⟩ := ty_sw_ok (pr := pr) (q := (pc, .tableswitch df' lo hi offs, len, a1, a2, a3, ts)) ha hy (hR.stk hr) ts ((a2 : Int) - 2147483648) (fun z hz => hN z (List.mem_append_right _ hz))
      by_cases c1 : y.toInt < lo
      · refine lv_tableOut x1 x2 hdg (Or.inl c1) e1 ?_
        obtain ⟨e', i1, i2, i3⟩ := ty_rl_ok hR.er (d := ty_pl _ (1 - ((a2 : Int) - 2147483648))) (ty_pl_sc hy.1) (by rw [ty_pl_ev, hy.2]; omega)
        exact ty_jp_ok (hN (e', _) (List.mem_append_left _ (List.mem_map.mpr ⟨e', i1, rfl⟩))) ha ((hR.stk hr).nar i3 i2)
      · by_cases c2 : hi < y.toInt
        · exact lv_tableOut x1 x2 hdg (Or.inr c2) e1 (s2 (by omega))
        · have hj : (y.toInt - lo).toNat < ts.length := by omega
          obtain ⟨t, ht⟩ : ∃ t, ts[(y.toInt - lo).toNat]? = some t := ⟨_, List.getElem?_eq_getElem hj⟩
          have h9 : (offs.toList.map (fun z => (pc : Int) + z))[(y.toInt - lo).toNat]? = some (t : Int) := by rw [e4, List.getElem?_map, ht]; rfl
          rw [List.getElem?_map] at h9
          obtain ⟨off, ho, ho2⟩ := Option.map_eq_some_iff.mp h9
          exact lv_tableIn x1 x2 hdg c1 c2 (by rw [← Array.getElem?_toList]; exact ho) ho2 (s1 _ _ ht (by omega))
    · cases hs
  | lookupswitch df' ps =>
    obtain ⟨e1, e3⟩ := ex_and hk
    obtain ⟨e1, e2⟩ := ex_and e1
    have e1 := of_decide_eq_true e1
    have e2 := of_decide_eq_true e2
    have hs : ty_lsw pr (pc, .lookupswitch df' ps, len, a1, a2, a3, ts) e lv st K = some o := hs
    unfold ty_lsw at hs
    split at hs
    · rename_i ta rest
      injection hs with hs
      subst hs
      obtain ⟨x, xr, rfl, ⟨y, rfl, hy⟩, hr⟩ := ty_sr_cons hR.sr
      exact lv_lookup x1 x2 hdg e3 rfl (ty_luO e1 y.toInt _ _ e2) (ty_lu_ok ha (ty_prs ts) e hy (hR.stk hr) hN)
    · cases hs
  | getfield ix =>
    have hns : Nat.beq a1 99 = false := hns
    have hk : (bif Nat.beq a1 99 then Nat.beq len 3 && (bif Nat.beq a2 0 then ty_wf own ix ts "java/lang/String" "value" "[B" else ty_wf own ix ts "java/lang/String" "coder" "B") else ex_pk own nm (pc, .getfield ix, len, a1, a2, a3, ts)) = true := hk
    rw [hns] at hk
    obtain ⟨e1, e2⟩ := ex_and hk
    cases ex_beq e1
    split at e2
    · rename_i rc wi hc hts
      obtain ⟨e2, e3⟩ := ex_and e2
      exact ty_gf_ok (q := (pc, .getfield ix, 3, a1, a2, a3, [wi])) hc (ex_blt e2) (ex_wd_ok e3) X rfl hdg hs hN hsub ha hR
    · cases e2
  | putfield ix =>
    obtain ⟨e1, e2⟩ := ex_and hk
    cases ex_beq e1
    split at e2
    · rename_i rc wi hc
      obtain ⟨e2, e5⟩ := ex_and e2
      obtain ⟨e2, e4⟩ := ex_and e2
      obtain ⟨e2, e3⟩ := ex_and e2
      have hfin : (rc.2.1 a2).2.2.2 = false := by
        cases hf : (rc.2.1 a2).2.2.2 with
        | false => rfl
        | true => rw [hf] at e4; cases e4
      exact ty_pf_ok (q := (pc, .putfield ix, 3, a1, a2, a3, [wi])) hc (ex_blt e2) (ex_wd_ok e3) hfin e5 X rfl hdg hs hN hsub ha hR
    · cases e2
  | arraylength =>
    cases ex_beq hk
    exact ty_len_ok (q := (pc, .arraylength, 1, a1, a2, a3, ts)) X hL rfl hdg hs hN hsub ha hR
  | iaload =>
    cases ex_beq hk
    refine ty_ald_ok (q := (pc, .iaload, 1, a1, a2, a3, ts)) (σ := σ) (il := isl) hL hs hN hsub ha hR (fun t j a N i tk cA ar y xr ok f1 ht f3 f4 f5 hin hj W1 => ?_) (fun i y xr hil hin hj W1 => ?_)
    · have ht0 := ex_beq ok
      subst ht0
      obtain ⟨N0, arv⟩ := ar
      cases f4
      obtain ⟨f, rfl⟩ : ∃ f, arv = .inl f := f5
      subst hj
      exact va_iald x1 x2 hR.hK hR.hP j tk f1 ht hin hdg W1
    · obtain ⟨hX, hbl, hbA⟩ := x9 hil
      subst hj
      exact va_sld x1 x2 hX hbl hbA hR.hS hin hdg W1
  | baload =>
    cases ex_beq hk
    refine ty_ald_ok (q := (pc, .baload, 1, a1, a2, a3, ts)) (σ := σ) (L := L) (il := false) (fun z => by cases z) hs hN hsub ha hR (fun t j a N i tk cA ar y xr ok f1 ht f3 f4 f5 hin hj W1 => ?_) (fun i y xr hil hin hj W1 => by cases hil)
    obtain ⟨N0, arv⟩ := ar
    cases f4
    subst hj
    rcases Bool.or_eq_true _ _ |>.mp ok with ok | ok
    · have ht0 := ex_beq ok
      subst ht0
      obtain ⟨f, rfl⟩ : ∃ f, arv = .inl f := f5
      exact va_bald x1 x2 hR.hK hR.hP j tk f1 ht hin hdg W1
    · have ht0 := ex_beq ok
      subst ht0
      obtain ⟨f, rfl⟩ : ∃ f, arv = .inl f := f5
      exact va_zald x1 x2 hR.hK hR.hP j tk f1 ht hin hdg W1
  | laload =>
    cases ex_beq hk
    refine ty_ald_ok (q := (pc, .laload, 1, a1, a2, a3, ts)) (σ := σ) (L := L) (il := false) (fun z => by cases z) hs hN hsub ha hR (fun t j a N i tk cA ar y xr ok f1 ht f3 f4 f5 hin hj W1 => ?_) (fun i y xr hil hin hj W1 => by cases hil)
    obtain ⟨N0, arv⟩ := ar
    cases f4
    subst hj
    have ht0 := ex_beq ok
    subst ht0
    obtain ⟨f, rfl⟩ : ∃ f, arv = .inr (.inl f) := f5
    exact va_lald x1 x2 hR.hK hR.hP j tk f1 ht hin hdg W1
  | aaload =>
    cases ex_beq hk
    refine ty_ald_ok (q := (pc, .aaload, 1, a1, a2, a3, ts)) (σ := σ) (L := L) (il := false) (fun z => by cases z) hs hN hsub ha hR (fun t j a N i tk cA ar y xr ok f1 ht f3 f4 f5 hin hj W1 => ?_) (fun i y xr hil hin hj W1 => by cases hil)
    obtain ⟨N0, arv⟩ := ar
    cases f4
    subst hj
    have ht0 := ex_beq ok
    subst ht0
    obtain ⟨f, rfl⟩ : ∃ f, arv = .inr (.inr (.inr (.inr f))) := f5
    exact va_aldq x1 x2 hR.hK hR.hP j tk f1 ht hin hdg W1
  | iastore =>
    cases ex_beq hk
    refine ty_ast_ok (q := (pc, .iastore, 1, a1, a2, a3, ts)) hs hN hsub ha hR (fun t j a N i tk cA ar y v f0 x xr ok okw hv f1 ht f3 f4 f5 hin hj => ?_)
    have ht0 := ex_beq ok
    subst ht0
    unfold ty_okw at okw
    split at okw
    · obtain ⟨z, rfl, hz⟩ := hv
      rename_i lo hi u
      have hb : lo ≤ z.toInt ∧ z.toInt ≤ hi := by
        rcases Bool.or_eq_true _ _ |>.mp okw with w | w
        · rcases Bool.or_eq_true _ _ |>.mp w with w | w
          · exact ty_in2_ok hR.er hz (ex_and w).2
          · cases (ex_and (ex_and w).1).1
        · cases (ex_and (ex_and (ex_and w).1).1).1
      obtain ⟨N0, arv⟩ := ar
      cases f4
      subst hj
      obtain ⟨f, rfl⟩ : ∃ f, arv = .inl f := f5
      exact ⟨(N0, .inl (upd f y.toNatClampNeg z)), rfl, ⟨_, rfl⟩, fun i' hi => by show Value.int (upd f y.toNatClampNeg z i') = .int (f i'); rw [pk_un hi], fun ws' => ⟨z, by show Value.int (upd f y.toNatClampNeg z y.toNatClampNeg) = .int z; rw [pk_us], hb⟩, fun _ => by show Value.int (upd f y.toNatClampNeg z y.toNatClampNeg) = .int z; rw [pk_us], fun W1 => va_iast x1 x2 hR.hK hR.hP hR.hD hR.hS j tk f1 ht hin hdg W1⟩
    · cases okw
    · cases okw
  | bastore =>
    cases ex_beq hk
    refine ty_ast_ok (q := (pc, .bastore, 1, a1, a2, a3, ts)) hs hN hsub ha hR (fun t j a N i tk cA ar y v f0 x xr ok okw hv f1 ht f3 f4 f5 hin hj => ?_)
    obtain ⟨N0, arv⟩ := ar
    cases f4
    subst hj
    rcases Bool.or_eq_true _ _ |>.mp ok with ok | ok
    · have ht0 := ex_beq ok
      subst ht0
      unfold ty_okw at okw
      split at okw
      · obtain ⟨z, rfl, hz⟩ := hv
        rename_i lo hi u
        have hb : lo ≤ -128 ∧ 127 ≤ hi := by
          rcases Bool.or_eq_true _ _ |>.mp okw with w | w
          · rcases Bool.or_eq_true _ _ |>.mp w with w | w
            · cases (ex_and w).1
            · exact ⟨ty_le_t (ex_and (ex_and w).1).2, ty_le_t (ex_and w).2⟩
          · cases (ex_and (ex_and (ex_and w).1).1).1
        obtain ⟨f, rfl⟩ : ∃ f, arv = .inl f := f5
        have hz8 : vp_nar .byte z = z.toInt8.toInt32 := rfl
        have z8 := ty_b8 z
        exact ⟨(N0, .inl (upd f y.toNatClampNeg (vp_nar .byte z))), rfl, ⟨_, rfl⟩, fun i' hi => by show Value.int (upd f y.toNatClampNeg _ i') = .int (f i'); rw [pk_un hi], fun ws' => ⟨vp_nar .byte z, by show Value.int (upd f y.toNatClampNeg _ y.toNatClampNeg) = _; rw [pk_us], by rw [hz8]; omega, by rw [hz8]; omega⟩, (fun h0 => by cases h0), fun W1 => va_bast x1 x2 hR.hK hR.hP hR.hD hR.hS j tk f1 ht hin hdg W1⟩
      · cases okw
      · cases okw
    · have ht0 := ex_beq ok
      subst ht0
      unfold ty_okw at okw
      split at okw
      · obtain ⟨z, rfl, hz⟩ := hv
        rename_i lo hi u
        have hb : (0 ≤ z.toInt ∧ z.toInt ≤ 1) ∧ lo ≤ 0 ∧ 1 ≤ hi := by
          rcases Bool.or_eq_true _ _ |>.mp okw with w | w
          · rcases Bool.or_eq_true _ _ |>.mp w with w | w
            · cases (ex_and w).1
            · cases (ex_and (ex_and w).1).1
          · have h1 := ty_in_ok hR.er (ex_and (ex_and (ex_and w).1).1).2
            rw [hz.2] at h1
            exact ⟨h1, ty_le_t (ex_and (ex_and w).1).2, ty_le_t (ex_and w).2⟩
        have hnar : vp_nar .boolean z = z := by rcases ty_01 hb.1.1 hb.1.2 with rfl | rfl <;> decide
        obtain ⟨f, rfl⟩ : ∃ f, arv = .inl f := f5
        exact ⟨(N0, .inl (upd f y.toNatClampNeg (vp_nar .boolean z))), rfl, ⟨_, rfl⟩, fun i' hi => by show Value.int (upd f y.toNatClampNeg _ i') = .int (f i'); rw [pk_un hi], fun ws' => ⟨z, by show Value.int (upd f y.toNatClampNeg _ y.toNatClampNeg) = _; rw [pk_us, hnar], by omega, by omega⟩, (fun h0 => by cases h0), fun W1 => va_zast x1 x2 hR.hK hR.hP hR.hD hR.hS j tk f1 ht hin hdg W1⟩
      · cases okw
      · cases okw
  | lastore =>
    cases ex_beq hk
    refine ty_ast_ok (q := (pc, .lastore, 1, a1, a2, a3, ts)) hs hN hsub ha hR (fun t j a N i tk cA ar y v f0 x xr ok okw hv f1 ht f3 f4 f5 hin hj => ?_)
    have ht0 := ex_beq ok
    subst ht0
    unfold ty_okw at okw
    split at okw
    · rcases Bool.or_eq_true _ _ |>.mp okw with w | w
      · rcases Bool.or_eq_true _ _ |>.mp w with w | w
        · cases (ex_and w).1
        · cases (ex_and (ex_and w).1).1
      · cases (ex_and (ex_and (ex_and w).1).1).1
    · obtain ⟨z, rfl, hz⟩ := hv
      obtain ⟨N0, arv⟩ := ar
      cases f4
      subst hj
      obtain ⟨f, rfl⟩ : ∃ f, arv = .inr (.inl f) := f5
      exact ⟨(N0, .inr (.inl (vp_updL f y.toNatClampNeg z))), rfl, ⟨_, rfl⟩, fun i' hi => by show Value.long (vp_updL f y.toNatClampNeg z i') = .long (f i'); rw [pk_uLn hi], fun ws' => ⟨z, by show Value.long (vp_updL f y.toNatClampNeg z y.toNatClampNeg) = .long z; rw [pk_uLs]⟩, (fun h0 => by cases h0), fun W1 => va_last x1 x2 hR.hK hR.hP hR.hD hR.hS j tk f1 ht hin hdg W1⟩
    · cases okw
  | invokestatic ix =>
    obtain ⟨lw, hl1, hl2⟩ := id hR.1
    have hs : (bif Nat.beq a3 2 then ty_mm true (pc, .invokestatic ix, len, a1, a2, a3, ts) r e lv st K else bif Nat.beq a3 3 then ty_mm false (pc, .invokestatic ix, len, a1, a2, a3, ts) r e lv st K else ty_acp ms (pc, .invokestatic ix, len, a1, a2, a3, ts) r e lv st K) = some o := hs
    have hk : (bif Nat.beq a3 2 then Nat.beq len 3 && ty_wm own ix ts Lib.Math.max.name else bif Nat.beq a3 3 then Nat.beq len 3 && ty_wm own ix ts Lib.Math.min.name else ex_pk own nm (pc, .invokestatic ix, len, a1, a2, a3, ts)) = true := hk
    obtain ⟨hg, hgm, hgx, hgn⟩ := hgw
    cases hb2 : Nat.beq a3 2 with
    | true =>
      rw [hb2] at hs hk
      obtain ⟨e1, e3⟩ := ex_and hk
      cases ex_beq e1
      · exact ty_mm_ok (d := d) (mx := true) x13 (fun x y xr hl kk => va_mmax x1 x2 (by rw [x3]; exact hl1.1.symm) x4 (x5 _ (ty_wm_ok e3)) (x5 _ hgx.1) (x5 _ hgm) (x5 _ hgx.2) (by omega) hl hkc.1 hkc.2 hdg kk) hs hN hsub ha hR
    | false =>
      rw [hb2] at hs hk
      cases hb3 : Nat.beq a3 3 with
      | true =>
        rw [hb3] at hs hk
        obtain ⟨e1, e3⟩ := ex_and hk
        cases ex_beq e1
        · exact ty_mm_ok (d := d) (mx := false) x13 (fun x y xr hl kk => va_mmin x1 x2 (by rw [x3]; exact hl1.1.symm) x4 (x5 _ (ty_wm_ok e3)) (x5 _ hgn.1) (x5 _ hgm) (x5 _ hgn.2) (by omega) hl hkc.1 hkc.2 hdg kk) hs hN hsub ha hR
      | false =>
        rw [hb3] at hs hk
        obtain ⟨e1, e3⟩ := ex_and hk
        cases ex_beq e1
        split at e3
        · exact ty_acp_ok (q := (pc, .invokestatic ix, 3, a1, a2, a3, _)) (ex_wd_ok e3) hg.1 hg.2.1 hg.2.2 X rfl hdg hs hN hsub ha hR
        · cases e3
  | _ => exact absurd (show none = some o from hs) (by intro h; cases h)
end TYT
