/-! flow: loads, stores, arithmetic, branches -/
abbrev ty_fl2 (i : Nat) (lw : List (Nat × Value)) : List (Nat × Value) := lw.filter (fun q => !(q.1 == i) && (!(q.1 == i + 1) && !(q.1 + 1 == i && q.2.category == 2)))
section TYF
variable {p : Program} {l : Launch} {en : Env} {R : Room} {s : State} {m : MethodId} {args : Array Value} {below : List Frame} {meth : Method} {c : Code} {k1 k2 : Nat} {Q : State → Prop} {D : va_G} {b : Nat} {sa : Nat → Nat} {A : Nat → Prop} {mL nr : Nat} {ρ0 ρ : Nat → Int} {w0 : va_W} {tys : List (ClassId × FieldType)} {ms : ty_M} {pr : List ex_P}
variable {e : ty_E} {lv : ty_L} {st : List ty_V} {K : ty_K} {ls : Array Slot} {xs : List Value} {ws : va_W} {H : Heap} {locs : List Loc} {q : ex_P} {r : List ex_P} {o : List (ty_E × ty_S)}
theorem ty_ld_ok {ok : ty_V → Bool} (hs : ty_ld q r e lv st K ok = some o) (hN : ty_NN p l en R s m args below meth c k1 k2 Q D b sa A mL nr ρ0 w0 tys ms pr o) (hsub : ∀ x ∈ q :: r, x ∈ pr) (ha : ty_ag nr ρ0 ρ) (hR : ty_Rl s D b sa A mL nr w0 tys ms ρ e lv st K ls xs ws H locs)
    (row : ∀ (v : ty_V) (x : Value), ok v = true → ty_vr b sa e.1 ρ ws v x → ls[q.2.2.2.1]? = some (.val x) → W p l en R s m args below meth c H locs k1 k2 Q (F0 m (q.1 + q.2.2.1) ls (x :: xs)) → W p l en R s m args below meth c H locs k1 k2 Q (F0 m q.1 ls xs)) : W p l en R s m args below meth c H locs k1 k2 Q (F0 m q.1 ls xs) := by
  unfold ty_ld at hs
  split at hs
  · rename_i v hv
    obtain ⟨h1, h2⟩ := ex_bifs hs
    obtain ⟨lw, hl, hr⟩ := hR.1
    obtain ⟨k, x, e1, e2⟩ := ty_lr_lk hr hv
    exact row v x h1 e2 (lv_at hl k e1) (ty_ft_ok h2 hN hsub ha (hR.push e2))
  · cases hs
theorem ty_st_ok {ok : ty_V → Bool} (hs : ty_st mL q r e lv st K ok = some o) (hN : ty_NN p l en R s m args below meth c k1 k2 Q D b sa A mL nr ρ0 w0 tys ms pr o) (hsub : ∀ x ∈ q :: r, x ∈ pr) (ha : ty_ag nr ρ0 ρ) (hR : ty_Rl s D b sa A mL nr w0 tys ms ρ e lv st K ls xs ws H locs)
    (row : ∀ (v : ty_V) (x : Value) (xr : List Value) (lw : List (Nat × Value)), ok v = true → ty_vr b sa e.1 ρ ws v x → lv_has ls mL lw → q.2.2.2.1 < mL → (∀ ls' : Array Slot, lv_has ls' mL ((q.2.2.2.1, x) :: ex_flt q.2.2.2.1 lw) → W p l en R s m args below meth c H locs k1 k2 Q (F0 m (q.1 + q.2.2.1) ls' xr)) → W p l en R s m args below meth c H locs k1 k2 Q (F0 m q.1 ls (x :: xr))) : W p l en R s m args below meth c H locs k1 k2 Q (F0 m q.1 ls xs) := by
  unfold ty_st at hs
  split at hs
  · rename_i v rest
    obtain ⟨h1, h2⟩ := ex_bifs hs
    obtain ⟨h3, h4⟩ := ex_and h1
    obtain ⟨x, xr, rfl, hv, hr⟩ := ty_sr_cons hR.sr
    obtain ⟨lw, hl, hlr⟩ := hR.1
    exact row v x xr lw h3 hv hl (ex_blt h4) (fun ls' hl' => ty_ft_ok h2 hN hsub ha ((hR.loc (lv' := (q.2.2.2.1, v) :: ty_del lv q.2.2.2.1) ⟨_, hl', (show ty_lr b sa e.1 ρ ws ((q.2.2.2.1, v) :: ty_del lv q.2.2.2.1) ((q.2.2.2.1, x) :: ex_flt q.2.2.2.1 lw) from ⟨⟨rfl, hv⟩, ty_lr_del _ hlr⟩)⟩).stk hr))
  · cases hs
theorem ty_st2_ok (hs : ty_st2 mL q r e lv st K = some o) (hN : ty_NN p l en R s m args below meth c k1 k2 Q D b sa A mL nr ρ0 w0 tys ms pr o) (hsub : ∀ x ∈ q :: r, x ∈ pr) (ha : ty_ag nr ρ0 ρ) (hR : ty_Rl s D b sa A mL nr w0 tys ms ρ e lv st K ls xs ws H locs)
    (row : ∀ (x : Int64) (xr : List Value) (lw : List (Nat × Value)), lv_has ls mL lw → q.2.2.2.1 + 1 < mL → (∀ ls' : Array Slot, lv_has ls' mL ((q.2.2.2.1, .long x) :: ty_fl2 q.2.2.2.1 lw) → W p l en R s m args below meth c H locs k1 k2 Q (F0 m (q.1 + q.2.2.1) ls' xr)) → W p l en R s m args below meth c H locs k1 k2 Q (F0 m q.1 ls (.long x :: xr))) : W p l en R s m args below meth c H locs k1 k2 Q (F0 m q.1 ls xs) := by
  unfold ty_st2 at hs
  split at hs
  · rename_i v rest
    obtain ⟨h1, h2⟩ := ex_bifs hs
    obtain ⟨h3, h4⟩ := ex_and h1
    obtain ⟨x, xr, rfl, hv, hr⟩ := ty_sr_cons hR.sr
    obtain ⟨y, rfl⟩ := ty_isJ_ok hv h3
    obtain ⟨lw, hl, hlr⟩ := hR.1
    exact row y xr lw hl (ex_blt h4) (fun ls' hl' => ty_ft_ok h2 hN hsub ha ((hR.loc (lv' := (q.2.2.2.1, v) :: ty_del2 lv q.2.2.2.1) ⟨_, hl', (show ty_lr b sa e.1 ρ ws ((q.2.2.2.1, v) :: ty_del2 lv q.2.2.2.1) ((q.2.2.2.1, .long y) :: ty_fl2 q.2.2.2.1 lw) from ⟨⟨rfl, hv⟩, ty_lr_del2 _ hlr⟩)⟩).stk hr))
  · cases hs
theorem ty_sm_o (h : ty_er ρ e) {t u : ty_t} {x y : Int} (hs : ty_sm e t u = true) (ht : ty_is e.1 ρ t x) (hu : ty_is e.1 ρ u y) : x = y := by
  obtain ⟨h1, h2⟩ := ex_and hs
  have h1 := ty_nn_t h1
  have h2 := ty_nn_t h2
  have h3 := ty_hi_ok h.1 (ty_add t u (-1))
  have h4 := ty_lo_ok h.1 (ty_add t u (-1))
  rw [ty_sub_ev, ht.2, hu.2] at h3 h4
  omega
theorem ty_fsh_ok {e : ty_E} {a : ty_t} {p : ty_t × ty_t} : ∀ {K : ty_K}, ty_fsh e a K = some p → ∃ w, (1008, p.1, p.2, ty_i w) ∈ K ∧ ty_sm e w a = true
  | [], h => by cases h
  | q :: K, h => by
    have ih := fun h' => ty_fsh_ok (e := e) (a := a) (p := p) (K := K) h'
    have h : (match q.2.2.2 with
      | .inl (.inl w) => bif Nat.beq q.1 1008 && ty_sm e w a then some (q.2.1, q.2.2.1) else ty_fsh e a K
      | _ => ty_fsh e a K) = some p := h
    split at h
    · rename_i w hw
      rcases ex_bif (P := fun z => z = some p) h with ⟨h1, h2⟩ | ⟨-, h2⟩
      · obtain ⟨h1, h3⟩ := ex_and h1
        injection h2 with h2
        subst h2
        refine ⟨w, ?_, h3⟩
        have e1 := ex_beq h1
        obtain ⟨q1, q2, q3, q4⟩ := q
        cases e1
        cases hw
        exact List.mem_cons_self
      · obtain ⟨w', h3, h4⟩ := ih h2
        exact ⟨w', List.mem_cons_of_mem _ h3, h4⟩
    · obtain ⟨w', h3, h4⟩ := ih h
      exact ⟨w', List.mem_cons_of_mem _ h3, h4⟩
theorem ty_gb_ok {o : Instr} {ta tb t : ty_t} {x y z : Int32} {n' : Nat} {ρ' : Nat → Int} (he : ty_er ρ e) (hA : ty_is e.1 ρ ta x.toInt) (hb : ty_is e.1 ρ tb y.toInt) (hz : ty_bv o x y = some z) (hK : ty_Kr b sa e.1 ρ ws K) (ha : ty_ag e.1 ρ ρ') (hn : e.1 ≤ n') (h5 : ty_is n' ρ' t z.toInt) : ty_Kr b sa n' ρ' ws (ty_gb o e K ta tb t) := by
  have hK' := hK.mono ha hn
  have put : ∀ q, ty_isG q.1 = true → ty_g2 n' ρ' ws q → ty_Kr b sa n' ρ' ws (q :: K) := fun q hg h r hr => by
    rcases List.mem_cons.mp hr with rfl | hr
    · exact Or.inr ⟨hg, Or.inr (Or.inl h)⟩
    · exact hK' r hr
  unfold ty_gb
  split
  · injection hz with hz
    subst hz
    split
    · exact put _ rfl (Or.inl ⟨rfl, x, y, t, hA.mono ha hn, hb.mono ha hn, rfl, h5⟩)
    · exact hK'
  · injection hz with hz
    subst hz
    split
    · rename_i hc
      split
      · rename_i p hp
        obtain ⟨w, w1, w2⟩ := ty_fsh_ok hp
        rcases hK _ w1 with ⟨hg, -⟩ | ⟨-, hg⟩
        · cases hg
        rcases hg with hg | hg
        · rcases hg with ⟨g, -⟩ | ⟨g, -⟩ | ⟨g, -⟩ | ⟨g, -⟩ | ⟨g, -⟩ | ⟨g, -⟩ | ⟨g, -⟩ <;> exact absurd g (by dsimp only; decide)
        rcases hg with hg | hg
        case inr => exact absurd hg.1 (by dsimp only; decide)
        · rcases hg with ⟨-, x0, y0, v, g1, g2, g3, g4⟩ | ⟨g, -⟩ | ⟨g, -⟩ | ⟨g, -⟩ | ⟨g, -⟩ | ⟨g, -⟩ | ⟨g, -⟩
          · injection g3 with g3
            injection g3 with g3
            subst g3
            have e1 := ty_sm_o he w2 g4 hA
            have e1 := Int32.toInt_inj.mp e1
            have e2 := ty_cst_ok he hc
            rw [hb.2] at e2
            have e2 : y = 1 := Int32.toInt_inj.mp (e2.trans rfl)
            subst e2
            rw [← e1] at h5
            exact put _ rfl (Or.inr (Or.inl ⟨rfl, x0, y0, t, g1.mono ha hn, g2.mono ha hn, rfl, h5⟩))
          all_goals exact absurd g (by dsimp only; decide)
      · exact hK'
    · exact hK'
  · exact hK'
theorem ty_bin_ok (hs : ty_bin q r e lv st K = some o) (hN : ty_NN p l en R s m args below meth c k1 k2 Q D b sa A mL nr ρ0 w0 tys ms pr o) (hsub : ∀ x ∈ q :: r, x ∈ pr) (ha : ty_ag nr ρ0 ρ) (hR : ty_Rl s D b sa A mL nr w0 tys ms ρ e lv st K ls xs ws H locs)
    (row : ∀ (x y : Int32) (rest : List Value), ∃ z, ty_bv q.2.1 x y = some z ∧ (((q.2.1 = .idiv ∨ q.2.1 = .irem) → ¬ y = 0) → W p l en R s m args below meth c H locs k1 k2 Q (F0 m (q.1 + q.2.2.1) ls (.int z :: rest)) → W p l en R s m args below meth c H locs k1 k2 Q (F0 m q.1 ls (.int y :: .int x :: rest)))) : W p l en R s m args below meth c H locs k1 k2 Q (F0 m q.1 ls xs) := by
  unfold ty_bin at hs
  split at hs
  · rename_i tb ta rest
    obtain ⟨x0, x1, rfl, ⟨y, rfl, hb⟩, hr1⟩ := ty_sr_cons hR.sr
    obtain ⟨x2, x3, rfl, ⟨x, rfl, hA⟩, hr2⟩ := ty_sr_cons hr1
    obtain ⟨z, hz, hrow⟩ := row x y x3
    unfold ty_res1 at hs
    split at hs
    · cases hs
    · exact ty_spl_ok hs hN hsub ha hR
    · rename_i d hd
      have an := ty_ar_ok hR.er hA hb hz hd
      injection hs with hs
      subst hs
      exact ty_cut_ok an hN hsub ha hR
    · rename_i w hw
      obtain ⟨a1, ρ', a2, a3, a4, a5⟩ := ty_ar_ok hR.er hA hb hz hw
      exact hrow a1 (ty_ft_ok hs hN hsub (ha.tr a2 hR.nle) ((((hR.stk hr2).env a2 a4 a3).push (v := ty_i w.2) (x := .int z) ⟨z, rfl, a5⟩).kn (ty_gb_ok hR.er hA hb hz hR.Kr a2 a4 a5)))
  · cases hs
theorem ty_ifs_ok {cn : ClassFile.Cond} {ta tb : ty_t} {rest : List ty_V} {y z : Int} {xr : List Value} (hs : ty_ifs pr q r cn e lv ta tb rest K = some o) (hN : ty_NN p l en R s m args below meth c k1 k2 Q D b sa A mL nr ρ0 w0 tys ms pr o) (hsub : ∀ x ∈ q :: r, x ∈ pr) (ha : ty_ag nr ρ0 ρ) (hR : ty_Rl s D b sa A mL nr w0 tys ms ρ e lv rest K ls xr ws H locs) (h1 : ty_is e.1 ρ ta y) (h2 : ty_is e.1 ρ tb z) : (ty_cm cn y z → W p l en R s m args below meth c H locs k1 k2 Q (F0 m q.2.2.2.1 ls xr)) ∧ (¬ ty_cm cn y z → W p l en R s m args below meth c H locs k1 k2 Q (F0 m (q.1 + q.2.2.1) ls xr)) := by
  obtain ⟨g1, g2⟩ := ty_br_ok hR.er (c := cn) h1.1 h2.1
  rw [h1.2, h2.2] at g1 g2
  unfold ty_ifs at hs
  split at hs
  · rename_i T hT
    cases hs
    rw [hT] at g1 g2
    refine ⟨fun hc => ?_, fun hc => ?_⟩
    · obtain ⟨e', i1, i2, i3⟩ := g1 hc
      exact ty_jp_ok (hN (e', _) (by rw [ex_map_eq]; exact List.mem_map.mpr ⟨e', i1, rfl⟩)) ha (hR.nar i3 i2)
    · obtain ⟨e', i1, -⟩ := g2 hc
      cases i1
  · rename_i T f0 fs hT
    rw [hT] at g1 g2
    split at hs
    · cases hs
    · rename_i q' r'
      obtain ⟨b1, b2⟩ := ex_bifs hs
      cases b2
      refine ⟨fun hc => ?_, fun hc => ?_⟩
      · obtain ⟨e', i1, i2, i3⟩ := g1 hc
        exact ty_jp_ok (hN (e', _) (by rw [ex_app_eq, ex_map_eq]; exact List.mem_append_left _ (List.mem_map.mpr ⟨e', i1, rfl⟩))) ha (hR.nar i3 i2)
      · obtain ⟨e', i1, i2, i3⟩ := g2 hc
        exact (hN (e', _) (by rw [ex_app_eq, ex_map_eq, ex_map_eq]; exact List.mem_append_right _ (List.mem_map.mpr ⟨e', i1, rfl⟩))).2 ρ ha _ ls xr ws H locs ⟨q', r', rfl, ex_beq b1⟩ (fun x hx => hsub x (List.mem_cons_of_mem _ hx)) (hR.nar i3 i2)
theorem ty_cm_i {cn : ClassFile.Cond} {x y : Int32} : ty_cm cn x.toInt y.toInt ↔ ex_cm cn x y := by
  cases cn
  · exact Int32.toInt_inj
  · exact not_congr Int32.toInt_inj
  · exact Int32.lt_iff_toInt_lt.symm
  · exact not_congr Int32.lt_iff_toInt_lt.symm
  · exact Int32.lt_iff_toInt_lt.symm
  · exact not_congr Int32.lt_iff_toInt_lt.symm
theorem ty_cm_l {cn : ClassFile.Cond} {x y : Int64} : ty_cm cn x.toInt y.toInt ↔ ex_cm cn (lg_cmp x y) 0 := by
  cases cn
  · exact Int64.toInt_inj.trans (lg_cmp_eq x y).symm
  · exact not_congr (Int64.toInt_inj.trans (lg_cmp_eq x y).symm)
  · exact Int64.lt_iff_toInt_lt.symm.trans (lg_cmp_lt x y).symm
  · exact not_congr (Int64.lt_iff_toInt_lt.symm.trans (lg_cmp_lt x y).symm)
  · exact Int64.lt_iff_toInt_lt.symm.trans (lg_cmp_gt x y).symm
  · exact not_congr (Int64.lt_iff_toInt_lt.symm.trans (lg_cmp_gt x y).symm)
theorem ty_if1_ok {cn : ClassFile.Cond} (hs : ty_if1 pr q r cn e lv st K = some o) (hN : ty_NN p l en R s m args below meth c k1 k2 Q D b sa A mL nr ρ0 w0 tys ms pr o) (hsub : ∀ x ∈ q :: r, x ∈ pr) (ha : ty_ag nr ρ0 ρ) (hR : ty_Rl s D b sa A mL nr w0 tys ms ρ e lv st K ls xs ws H locs) : ∃ (x : Int32) (xr : List Value), xs = .int x :: xr ∧ (ex_cm cn x 0 → W p l en R s m args below meth c H locs k1 k2 Q (F0 m q.2.2.2.1 ls xr)) ∧ (¬ ex_cm cn x 0 → W p l en R s m args below meth c H locs k1 k2 Q (F0 m (q.1 + q.2.2.1) ls xr)) := by
  unfold ty_if1 at hs
  split at hs
  · rename_i ta rest
    obtain ⟨x, xr, rfl, ⟨y, rfl, hy⟩, hr⟩ := ty_sr_cons hR.sr
    have h0 : ty_is e.1 ρ (ty_k 0) (0 : Int32).toInt := ty_is_k _ _ _
    obtain ⟨g1, g2⟩ := ty_ifs_ok hs hN hsub ha (hR.stk hr) hy h0
    exact ⟨y, xr, rfl, fun h => g1 (ty_cm_i.mpr h), fun h => g2 (fun h' => h (ty_cm_i.mp h'))⟩
  · rename_i ta tb rest
    obtain ⟨x, xr, rfl, ⟨y, z, rfl, hy, hz⟩, hr⟩ := ty_sr_cons hR.sr
    obtain ⟨g1, g2⟩ := ty_ifs_ok hs hN hsub ha (hR.stk hr) hy hz
    exact ⟨lg_cmp y z, xr, rfl, fun h => g1 (ty_cm_l.mpr h), fun h => g2 (fun h' => h (ty_cm_l.mp h'))⟩
  · cases hs
theorem ty_if2_ok {cn : ClassFile.Cond} (hs : ty_if2 pr q r cn e lv st K = some o) (hN : ty_NN p l en R s m args below meth c k1 k2 Q D b sa A mL nr ρ0 w0 tys ms pr o) (hsub : ∀ x ∈ q :: r, x ∈ pr) (ha : ty_ag nr ρ0 ρ) (hR : ty_Rl s D b sa A mL nr w0 tys ms ρ e lv st K ls xs ws H locs) : ∃ (x y : Int32) (xr : List Value), xs = .int y :: .int x :: xr ∧ (ex_cm cn x y → W p l en R s m args below meth c H locs k1 k2 Q (F0 m q.2.2.2.1 ls xr)) ∧ (¬ ex_cm cn x y → W p l en R s m args below meth c H locs k1 k2 Q (F0 m (q.1 + q.2.2.1) ls xr)) := by
  unfold ty_if2 at hs
  split at hs
  · rename_i tb ta rest
    obtain ⟨x0, x1, rfl, ⟨y, rfl, hy⟩, hr1⟩ := ty_sr_cons hR.sr
    obtain ⟨x2, x3, rfl, ⟨x, rfl, hx⟩, hr2⟩ := ty_sr_cons hr1
    obtain ⟨g1, g2⟩ := ty_ifs_ok hs hN hsub ha (hR.stk hr2) hx hy
    exact ⟨x, y, x3, rfl, fun h => g1 (ty_cm_i.mpr h), fun h => g2 (fun h' => h (ty_cm_i.mp h'))⟩
  · cases hs
theorem ty_sw_ok {ta : ty_t} {rest : List ty_V} {y : Int} {xr : List Value} (ha : ty_ag nr ρ0 ρ) (hv : ty_is e.1 ρ ta y) (hR : ty_Rl s D b sa A mL nr w0 tys ms ρ e lv rest K ls xr ws H locs) : ∀ (ts : List Nat) (lo : Int), ty_NN p l en R s m args below meth c k1 k2 Q D b sa A mL nr ρ0 w0 tys ms pr (ty_sw pr q e lv ta rest K ts lo) →
    (∀ (j t : Nat), ts[j]? = some t → y = lo + (j : Int) → W p l en R s m args below meth c H locs k1 k2 Q (F0 m t ls xr)) ∧ (lo + (ts.length : Int) ≤ y → W p l en R s m args below meth c H locs k1 k2 Q (F0 m q.2.2.2.1 ls xr))
  | [], lo, hN => by
    refine ⟨(fun j t hh => by cases hh), (fun hx => ?_)⟩
    have hN1 : ty_NN p l en R s m args below meth c k1 k2 Q D b sa A mL nr ρ0 w0 tys ms pr (ex_map (fun e => (e, (ex_jp pr q.2.2.2.1, lv, rest, K))) (ty_rl e (ty_add (ty_k lo) ta (-1)))) := hN
    rw [ex_map_eq] at hN1
    have hx : lo + ((0 : Nat) : Int) ≤ y := hx
    obtain ⟨e', i1, i2, i3⟩ := ty_rl_ok hR.er (d := ty_add (ty_k lo) ta (-1)) (ty_add_sc ty_k_sc hv.1) (by rw [ty_sub_ev, ty_k_ev, hv.2]; omega)
    exact ty_jp_ok (hN1 (e', _) (List.mem_map.mpr ⟨e', i1, rfl⟩)) ha (hR.nar i3 i2)
  | t :: ts, lo, hN => by
    have hN1 : ty_NN p l en R s m args below meth c k1 k2 Q D b sa A mL nr ρ0 w0 tys ms pr (ex_app (ex_map (fun e => (e, (ex_jp pr t, lv, rest, K))) (ty_rl2 e (ty_pl ta (-lo)) (ty_add (ty_k lo) ta (-1)))) (ty_sw pr q e lv ta rest K ts (lo + 1))) := hN
    rw [ex_app_eq, ex_map_eq] at hN1
    have ih := ty_sw_ok ha hv hR ts (lo + 1) (fun x hx => hN1 x (List.mem_append_right _ hx))
    refine ⟨fun j t' hj hx => ?_, fun hx => ih.2 (by rw [List.length_cons] at hx; omega)⟩
    cases j with
    | zero =>
      cases hj
      obtain ⟨e', i1, i2, i3⟩ := ty_rl2_ok hR.er (d := ty_pl ta (-lo)) (d' := ty_add (ty_k lo) ta (-1)) (ty_pl_sc hv.1) (by rw [ty_pl_ev, hv.2]; omega) (ty_add_sc ty_k_sc hv.1) (by rw [ty_sub_ev, ty_k_ev, hv.2]; omega)
      exact ty_jp_ok (hN1 (e', _) (List.mem_append_left _ (List.mem_map.mpr ⟨e', i1, rfl⟩))) ha (hR.nar i3 i2)
    | succ j => exact ih.1 j t' (by rw [List.getElem?_cons_succ] at hj; exact hj) (by omega)
/-- where a lookup goes -/
def ty_luT (df : Nat) (ps : List (Nat × Nat)) (y : Int) : Nat := match ps with
  | [] => df
  | p :: r => if (p.1 : Int) - 2147483648 = y then p.2 else ty_luT df r y
theorem ty_luF {f : ty_E → List (ty_E × ty_S)} : ∀ {F : List ty_E}, ty_NN p l en R s m args below meth c k1 k2 Q D b sa A mL nr ρ0 w0 tys ms pr (List.rec (motive := fun _ => List (ty_E × ty_S)) [] (fun e' _ iF => ex_app (f e') iF) F) → ∀ e' ∈ F, ty_NN p l en R s m args below meth c k1 k2 Q D b sa A mL nr ρ0 w0 tys ms pr (f e')
  | [], _, e', he => by cases he
  | a :: t, hN, e', he => by
    have hN1 : ty_NN p l en R s m args below meth c k1 k2 Q D b sa A mL nr ρ0 w0 tys ms pr (ex_app (f a) (List.rec (motive := fun _ => List (ty_E × ty_S)) [] (fun e' _ iF => ex_app (f e') iF) t)) := hN
    rw [ex_app_eq] at hN1
    rcases List.mem_cons.mp he with rfl | he
    · exact fun x hx => hN1 x (List.mem_append_left _ hx)
    · exact ty_luF (fun x hx => hN1 x (List.mem_append_right _ hx)) e' he
theorem ty_lu_ok {df : Nat} {ta : ty_t} {rest : List ty_V} {y : Int} {xr : List Value} (ha : ty_ag nr ρ0 ρ) : ∀ (ps : List (Nat × Nat)) (e : ty_E), ty_is e.1 ρ ta y → ty_Rl s D b sa A mL nr w0 tys ms ρ e lv rest K ls xr ws H locs → ty_NN p l en R s m args below meth c k1 k2 Q D b sa A mL nr ρ0 w0 tys ms pr (ty_lu pr df lv ta rest K ps e) → W p l en R s m args below meth c H locs k1 k2 Q (F0 m (ty_luT df ps y) ls xr)
  | [], e, hv, hR, hN => ty_jp_ok (hN (e, (ex_jp pr df, lv, rest, K)) (List.mem_singleton.mpr rfl)) ha hR
  | p0 :: r0, e, hv, hR, hN => by
    obtain ⟨g1, g2⟩ := ty_br_ok hR.er (c := .eq) hv.1 (ty_k_sc (c := (p0.1 : Int) - 2147483648))
    rw [hv.2, ty_k_ev] at g1 g2
    have hN1 : ty_NN p l en R s m args below meth c k1 k2 Q D b sa A mL nr ρ0 w0 tys ms pr (ex_app (ex_map (fun e => (e, (ex_jp pr p0.2, lv, rest, K))) (ty_br .eq e ta (ty_k ((p0.1 : Int) - 2147483648))).1) (List.rec (motive := fun _ => List (ty_E × ty_S)) [] (fun e' _ iF => ex_app (ty_lu pr df lv ta rest K r0 e') iF) (ty_br .eq e ta (ty_k ((p0.1 : Int) - 2147483648))).2)) := hN
    rw [ex_app_eq, ex_map_eq] at hN1
    unfold ty_luT
    by_cases hc : (p0.1 : Int) - 2147483648 = y
    · rw [if_pos hc]
      obtain ⟨e', i1, i2, i3⟩ := g1 hc.symm
      exact ty_jp_ok (hN1 (e', _) (List.mem_append_left _ (List.mem_map.mpr ⟨e', i1, rfl⟩))) ha (hR.nar i3 i2)
    · rw [if_neg hc]
      obtain ⟨e', i1, i2, i3⟩ := g2 (fun h => hc h.symm)
      exact ty_lu_ok ha r0 e' (by rw [i3]; exact hv) (hR.nar i3 i2) (ty_luF (fun x hx => hN1 x (List.mem_append_right _ hx)) e' i1)
theorem ty_luO {pc df : Nat} {dflt : Int} (hd : (pc : Int) + dflt = (df : Int)) (y : Int) : ∀ (ps : List (Int × Int)) (qs : List (Nat × Nat)), ps.map (fun z => (z.1 + 2147483648, (pc : Int) + z.2)) = qs.map (fun t => ((t.1 : Int), (t.2 : Int))) → (pc : Int) + Op.lookupswitch.offset ps dflt y = (ty_luT df qs y : Int)
  | [], [], _ => hd
  | [], _ :: _, h => by cases h
  | _ :: _, [], h => by cases h
  | p0 :: ps, q0 :: qs, h => by
    rw [List.map_cons, List.map_cons] at h
    injection h with h1 h2
    injection h1 with h3 h4
    have ih := ty_luO hd y ps qs h2
    obtain ⟨p1, p2⟩ := p0
    rw [Op.lookupswitch.offset_cons]
    unfold ty_luT
    dsimp only at h3 h4
    by_cases hc : p1 = y
    · rw [if_pos hc, if_pos (by omega)]; exact h4
    · rw [if_neg hc, if_neg (by omega)]; exact ih
end TYF
