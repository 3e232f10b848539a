theorem ex_nlt {x y : Int32} : ¬ x < y ↔ y ≤ x := by
  rw [ex_u_lti, ex_u_lei]; omega
noncomputable def ex_i (n : Nat) : Int32 := Int32.ofInt ((n : Int) - 2147483648)
section EXF
variable {p : Program} {l : Launch} {e : Env} {R : Room} {s : State} {m : MethodId} {args : Array Value} {below : List Frame} {meth : Method} {c : Code} {Q : State → Prop} {D : va_G} {ρ : Nat → Int32} {b L : Nat} {A : Nat → Prop} {mL d : Nat} {w0 : va_W} {t0 : List (ClassId × FieldType)} {pr : List ex_P} {own nm : String} {cd : ByteArray} {cap : Nat × Nat} {isl : Bool}
variable {en : ex_E} {lv : ex_L} {st : List ex_V} {h : ex_H} {n k1 k2 : Nat} {ls : Array Slot} {xs : List Value} {ws : va_W} {tys : List (ClassId × FieldType)} {H : Heap} {locs : List Loc} {q : ex_P} {r : List ex_P} {o : List (ex_E × ex_S)}
theorem ex_N.g (hN : ex_N p l e R s m args below meth c Q D ρ b A mL w0 t0 pr o) : ∀ x ∈ o, ex_G p l e R s m args below meth c Q D ρ b A mL w0 t0 pr x.1 x.2 := fun x hx => (hN x hx).2
/-- a load: the value is there -/
theorem ex_ld_ok {ok : ex_V → Bool} (hs : ex_ld q r en lv st h n k1 k2 ok = some o) (hN : ex_N p l e R s m args below meth c Q D ρ b A mL w0 t0 pr o) (hsub : ∀ x ∈ q :: r, x ∈ pr) (hR : ex_Rl s D ρ b A mL w0 t0 en lv st h n ls xs ws tys H locs)
    (row : ∀ (v : ex_V) (x : Value), ok v = true → ex_vr ρ b ws v x → ls[q.2.2.2.1]? = some (.val x) → W p l e R s m args below meth c H locs k1 k2 Q (F0 m (q.1 + q.2.2.1) ls (x :: xs)) → W p l e R s m args below meth c H locs k1 k2 Q (F0 m q.1 ls xs)) : W p l e R s m args below meth c H locs k1 k2 Q (F0 m q.1 ls xs) := by
  unfold ex_ld at hs
  split at hs
  · rename_i v hv
    obtain ⟨h1, h2⟩ := ex_bifs hs
    obtain ⟨lw, hl, hr⟩ := hR.1
    obtain ⟨k, x, e1, e2⟩ := ex_lr_lk hr hv
    exact row v x h1 e2 (lv_at hl k e1) (ex_ft_ok h2 hN.g hsub (hR.push e2))
  · cases hs
theorem ex_st_ok {ok : ex_V → Bool} (hs : ex_st mL q r en lv st h n k1 k2 ok = some o) (hN : ex_N p l e R s m args below meth c Q D ρ b A mL w0 t0 pr o) (hsub : ∀ x ∈ q :: r, x ∈ pr) (hR : ex_Rl s D ρ b A mL w0 t0 en lv st h n ls xs ws tys H locs)
    (row : ∀ (v : ex_V) (x : Value) (xr : List Value) (lw : List (Nat × Value)), ok v = true → ex_vr ρ b ws v x → lv_has ls mL lw → q.2.2.2.1 < mL → (∀ ls' : Array Slot, lv_has ls' mL ((q.2.2.2.1, x) :: ex_flt q.2.2.2.1 lw) → W p l e R s m args below meth c H locs k1 k2 Q (F0 m (q.1 + q.2.2.1) ls' xr)) → W p l e R s m args below meth c H locs k1 k2 Q (F0 m q.1 ls (x :: xr))) : W p l e R s m args below meth c H locs k1 k2 Q (F0 m q.1 ls xs) := by
  unfold ex_st at hs
  split at hs
  · rename_i v rest
    obtain ⟨h1, h2⟩ := ex_bifs hs
    obtain ⟨h3, h4⟩ := ex_and h1
    obtain ⟨x, xr, rfl, hv, hr⟩ := ex_sr_cons hR.sr
    obtain ⟨lw, hl, hlr⟩ := hR.1
    exact row v x xr lw h3 hv hl (ex_blt h4) (fun ls' hl' => ex_ft_ok h2 hN.g hsub ((hR.loc (lv' := (q.2.2.2.1, v) :: ex_del lv q.2.2.2.1) ⟨_, hl', (show ex_lr ρ b ws ((q.2.2.2.1, v) :: ex_del lv q.2.2.2.1) ((q.2.2.2.1, x) :: ex_flt q.2.2.2.1 lw) from ⟨⟨rfl, hv⟩, ex_lr_del hlr _⟩)⟩).stk hr))
  · cases hs
theorem ex_spl_ok {i : Nat} (hs : ex_spl en i (q :: r, lv, st, h, n, k1, k2) = some o) (hN : ex_N p l e R s m args below meth c Q D ρ b A mL w0 t0 pr o) (hsub : ∀ x ∈ q :: r, x ∈ pr) (hR : ex_Rl s D ρ b A mL w0 t0 en lv st h n ls xs ws tys H locs) : W p l e R s m args below meth c H locs k1 k2 Q (F0 m q.1 ls xs) := by
  unfold ex_spl at hs
  split at hs
  · rename_i z hz
    cases hs
    have hb := hR.er i z hz
    refine (hN (ex_set en i (ex_u (ρ i), ex_u (ρ i)), (q :: r, lv, st, h, n, k1, k2)) ?_).2 q.1 ls xs ws tys H locs ⟨q, r, rfl, rfl⟩ hsub (hR.env ?_)
    · rw [ex_map_eq]
      exact List.mem_map.mpr ⟨ex_u (ρ i), (ex_range_mem _ _ _).mpr ⟨hb.1, by omega⟩, rfl⟩
    · intro j y hj
      rw [ex_nth_get, ex_set_eq, List.getElem?_set] at hj
      split at hj
      · rename_i hij
        subst hij
        split at hj
        · injection hj with hj
          subst hj
          exact ⟨Nat.le_refl _, Nat.le_refl _⟩
        · cases hj
      · exact hR.er j y (by rw [ex_nth_get]; exact hj)
  · cases hs
theorem ex_bin_ok (hs : ex_bin q r en lv st h n k1 k2 = some o) (hN : ex_N p l e R s m args below meth c Q D ρ b A mL w0 t0 pr o) (hsub : ∀ x ∈ q :: r, x ∈ pr) (hR : ex_Rl s D ρ b A mL w0 t0 en lv st h n ls xs ws tys H locs)
    (row : ∀ (x y : Int32) (rest : List Value), ∃ z, ex_bv q.2.1 x y = some z ∧ (((q.2.1 = .idiv ∨ q.2.1 = .irem) → ¬ y = 0) → W p l e R s m args below meth c H locs k1 k2 Q (F0 m (q.1 + q.2.2.1) ls (.int z :: rest)) → W p l e R s m args below meth c H locs k1 k2 Q (F0 m q.1 ls (.int y :: .int x :: rest)))) : W p l e R s m args below meth c H locs k1 k2 Q (F0 m q.1 ls xs) := by
  unfold ex_bin at hs
  split at hs
  · rename_i vb va rest
    obtain ⟨h1, h2⟩ := ex_bifs hs
    obtain ⟨ha, hb⟩ := ex_and h1
    split at h2
    · exact ex_spl_ok h2 hN hsub hR
    · split at h2
      · exact ex_spl_ok h2 hN hsub hR
      · split at h2
        · rename_i v hv
          obtain ⟨xb, x1, rfl, vb1, hr1⟩ := ex_sr_cons hR.sr
          obtain ⟨xa, x2, rfl, va1, hr2⟩ := ex_sr_cons hr1
          obtain ⟨y, rfl⟩ := ex_vr_int vb1 hb
          obtain ⟨x, rfl⟩ := ex_vr_int va1 ha
          obtain ⟨z, hz, hrow⟩ := row x y x2
          obtain ⟨g1, g2⟩ := ex_op_ok hR.er va1 vb1 hv z hz
          exact hrow g2 (ex_ft_ok h2 hN.g hsub (hR.stk ⟨g1, hr2⟩))
        · cases h2
  · cases hs
theorem ex_ifs_ok {cd' : ClassFile.Cond} {va vb : ex_V} {rest : List ex_V} {x y : Int32} {xr : List Value} (hs : ex_ifs pr q r cd' en lv va vb rest h n k1 k2 = some o) (hN : ex_N p l e R s m args below meth c Q D ρ b A mL w0 t0 pr o) (hsub : ∀ x ∈ q :: r, x ∈ pr) (hR : ex_Rl s D ρ b A mL w0 t0 en lv rest h n ls xr ws tys H locs) (ha : ex_vr ρ b ws va (.int x)) (hb : ex_vr ρ b ws vb (.int y)) :
    (ex_cm cd' x y → W p l e R s m args below meth c H locs k1 k2 Q (F0 m q.2.2.2.1 ls xr)) ∧ (¬ ex_cm cd' x y → W p l e R s m args below meth c H locs k1 k2 Q (F0 m (q.1 + q.2.2.1) ls xr)) := by
  unfold ex_ifs at hs
  split at hs
  · cases hs
  · rename_i tf htf
    obtain ⟨g1, g2⟩ := ex_br_ok hR.er ha hb htf
    split at hs
    · rename_i hnil
      cases hs
      refine ⟨fun hc => ?_, fun hc => ?_⟩
      · obtain ⟨e', i1, i2⟩ := g1 hc
        exact ex_jp_ok (hN (e', _) (by rw [ex_map_eq]; exact List.mem_map.mpr ⟨e', i1, rfl⟩)) (hR.env i2)
      · obtain ⟨e', i1, i2⟩ := g2 hc
        rw [hnil] at i1
        cases i1
    · rename_i f0 fs hcons
      split at hs
      · cases hs
      · rename_i q' r'
        obtain ⟨h1, h2⟩ := ex_bifs hs
        cases h2
        refine ⟨fun hc => ?_, fun hc => ?_⟩
        · obtain ⟨e', i1, i2⟩ := g1 hc
          exact ex_jp_ok (hN (e', _) (by rw [ex_app_eq, ex_map_eq]; exact List.mem_append_left _ (List.mem_map.mpr ⟨e', i1, rfl⟩))) (hR.env i2)
        · obtain ⟨e', i1, i2⟩ := g2 hc
          rw [hcons] at i1
          exact (hN (e', _) (by rw [ex_app_eq, ex_map_eq, ex_map_eq]; exact List.mem_append_right _ (List.mem_map.mpr ⟨e', i1, rfl⟩))).2 _ ls xr ws tys H locs ⟨q', r', rfl, ex_beq h1⟩ (fun x hx => hsub x (List.mem_cons_of_mem _ hx)) (hR.env i2)
theorem ex_sw_ok {v : ex_V} {rest : List ex_V} {x : Int32} {xr : List Value} (hv : ex_vr ρ b ws v (.int x)) (hR : ex_Rl s D ρ b A mL w0 t0 en lv rest h n ls xr ws tys H locs) : ∀ (ts : List Nat) (lo : Nat), ex_N p l e R s m args below meth c Q D ρ b A mL w0 t0 pr (ex_sw pr q en lv v rest h n k1 k2 ts lo) →
    (∀ j t, ts[j]? = some t → ex_u x = lo + j → W p l e R s m args below meth c H locs k1 k2 Q (F0 m t ls xr)) ∧ (lo + ts.length ≤ ex_u x → W p l e R s m args below meth c H locs k1 k2 Q (F0 m q.2.2.2.1 ls xr))
  | [], lo, hN => by
    refine ⟨(fun j t hh => by cases hh), (fun hx => ?_)⟩
    have l := ex_u_lt x
    obtain ⟨e', i1, i2⟩ := ex_1_ok hR.er hv (show lo ≤ ex_u x by simpa using hx) (show ex_u x ≤ 4294967295 by omega)
    exact ex_jp_ok (hN (e', _) (by show _ ∈ ex_map _ _; rw [ex_map_eq]; exact List.mem_map.mpr ⟨e', i1, rfl⟩)) (hR.env i2)
  | t :: ts, lo, hN => by
    have hN1 : ex_N p l e R s m args below meth c Q D ρ b A mL w0 t0 pr (ex_app (ex_map (fun e => (e, (ex_jp pr t, lv, rest, h, n, k1, k2))) (ex_1 en v lo lo)) (ex_sw pr q en lv v rest h n k1 k2 ts (lo + 1))) := hN
    rw [ex_app_eq, ex_map_eq] at hN1
    have ih := ex_sw_ok hv hR ts (lo + 1) (fun x hx => hN1 x (List.mem_append_right _ hx))
    refine ⟨fun j t' hj hx => ?_, fun hx => ih.2 (by rw [List.length_cons] at hx; omega)⟩
    cases j with
    | zero =>
      cases hj
      obtain ⟨e', i1, i2⟩ := ex_1_ok hR.er hv (show lo ≤ ex_u x by omega) (show ex_u x ≤ lo by omega)
      exact ex_jp_ok (hN1 (e', _) (List.mem_append_left _ (List.mem_map.mpr ⟨e', i1, rfl⟩))) (hR.env i2)
    | succ j => exact ih.1 j t' (by rw [List.getElem?_cons_succ] at hj; exact hj) (by omega)
end EXF
