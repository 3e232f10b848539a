section EXR
variable {p : Program} {l : Launch} {e : Env} {R : Room} {s : State} {m : MethodId} {args : Array Value} {below : List Frame} {meth : Method} {c : Code} {Q : State → Prop} {D : va_G} {ρ : Nat → Int32} {b L : Nat} {A : Nat → Prop} {mL d : Nat} {w0 : va_W} {t0 : List (ClassId × FieldType)} {pr : List ex_P} {own nm : String} {cd : ByteArray} {cap : Nat × Nat} {isl : Bool}
variable {en : ex_E} {lv : ex_L} {st : List ex_V} {h : ex_H} {n k1 k2 : Nat} {ls : Array Slot} {xs : List Value} {ws : va_W} {tys : List (ClassId × FieldType)} {H : Heap} {locs : List Loc} {q : ex_P} {r : List ex_P} {o : List (ex_E × ex_S)}
theorem ex_u_nat {N : Nat} (h : N ≤ 100000) : ex_u (Int32.ofNat N) = N + 2147483648 := by
  have h1 := ex_u_int (nI N)
  rw [nI_toInt (by omega)] at h1
  have : ex_u (nI N) = ex_u (Int32.ofNat N) := rfl
  omega
theorem ex_al_ok (X : ex_X p R s m args meth c ρ b L A own nm cd mL d cap isl) (hlen : q.2.2.1 = 1) (hdg : decode cd q.1 = .ok (.arraylength, 1))
    (hs : ex_al isl L q r en lv st h n k1 k2 = some o) (hN : ex_N p l e R s m args below meth c Q D ρ b A mL w0 t0 pr o) (hsub : ∀ x ∈ q :: r, x ∈ pr) (hR : ex_Rl s D ρ b A mL w0 t0 en lv st h n ls xs ws tys H locs) : W p l e R s m args below meth c H locs k1 k2 Q (F0 m q.1 ls xs) := by
  obtain ⟨x1, x2, x3, x4, x5, x6, x7, x8, x9, x10, x11, x12⟩ := X
  unfold ex_al at hs
  split at hs
  · rename_i ob rest
    split at hs
    · rename_i t N ov hget
      obtain ⟨h1, h2⟩ := ex_bifs hs
      have h1 := ex_ble h1
      obtain ⟨x, xr, rfl, hvr, hr⟩ := ex_sr_cons hR.sr
      obtain ⟨a, ev, e1, rfl⟩ := hvr
      obtain ⟨a', cA, ar, f1, f2, f3, f4, f5, f6⟩ := hR.hr.arr hget
      have ea := ex_at e1 f1
      subst ea
      obtain ⟨tk, ht⟩ := ex_ty_in f2
      have W1 := ex_ft_ok h2 hN.g hsub (hR.stk (st' := ex_k (N + 2147483648) :: rest) (xs' := .int (Int32.ofNat ar.1) :: xr) ⟨ex_k_ok _ (by rw [f4]; exact ex_u_nat h1), hr⟩)
      rw [hlen] at W1
      exact va_alen x1 x2 hR.hK hR.hP ob tk f1 ht rfl hdg W1
    · cases hs
  · rename_i rest
    obtain ⟨h1, h2⟩ := ex_bifs hs
    obtain ⟨h1, h3⟩ := ex_and h1
    have h3 := ex_ble h3
    obtain ⟨x, xr, rfl, hvr, hr⟩ := ex_sr_cons hR.sr
    obtain ⟨hX, hbl, hbA⟩ := x9 h1
    have W1 := ex_ft_ok h2 hN.g hsub (hR.stk (st' := ex_k (L + 2147483648) :: rest) (xs' := .int (Int32.ofNat L) :: xr) ⟨ex_k_ok _ (ex_u_nat h3), hr⟩)
    rw [hlen] at W1
    have hvr : x = .ref b := hvr
    subst hvr
    exact va_slen x1 x2 hX hbl hbA hR.hS hdg W1
  · cases hs
theorem ex_ald_ok {ok : Nat → Bool} {il : Bool} (hil : il = true → isl = true) (hs : ex_ald il L ok q r en lv st h n k1 k2 = some o) (hN : ex_N p l e R s m args below meth c Q D ρ b A mL w0 t0 pr o) (hsub : ∀ x ∈ q :: r, x ∈ pr) (hR : ex_Rl s D ρ b A mL w0 t0 en lv st h n ls xs ws tys H locs)
    (row : ∀ (t ob a N j tk : Nat) (cA : ClassId) (ar : vp_A) (y : Int32) (xr : List Value), ok t = true → ws[ob]? = some (a, .inl (cA, ar)) → tys[tk]? = some (cA, ex_ty t) → t ≤ 4 → ar.1 = N → ex_ak t ar → vp_in y N → y.toNatClampNeg = j → W p l e R s m args below meth c H locs k1 k2 Q (F0 m (q.1 + q.2.2.1) ls (ex_ag ar j :: xr)) → W p l e R s m args below meth c H locs k1 k2 Q (F0 m q.1 ls (.int y :: .ref a :: xr)))
    (row2 : ∀ (j : Nat) (y : Int32) (xr : List Value), il = true → vp_in y L → y.toNatClampNeg = j → W p l e R s m args below meth c H locs k1 k2 Q (F0 m (q.1 + q.2.2.1) ls (.int (ρ j) :: xr)) → W p l e R s m args below meth c H locs k1 k2 Q (F0 m q.1 ls (.int y :: .ref b :: xr))) : W p l e R s m args below meth c H locs k1 k2 Q (F0 m q.1 ls xs) := by
  unfold ex_ald at hs
  split at hs
  · rename_i i ob rest
    split at hs
    · exact ex_spl_ok hs hN hsub hR
    · split at hs
      · rename_i t N ov hget
        split at hs
        · rename_i j hix
          obtain ⟨h1, h2⟩ := ex_bifs hs
          obtain ⟨h1, hI⟩ := ex_and h1
          obtain ⟨x, xr, rfl, hvr, hr⟩ := ex_sr_cons hR.sr
          obtain ⟨x', xr', rfl, hvr', hr'⟩ := ex_sr_cons hr
          obtain ⟨y, rfl⟩ := ex_vr_int hvr hI
          obtain ⟨i1, i2, i3, i4⟩ := ex_ix_ok hR.er hix hvr
          obtain ⟨a, ev, e1, rfl⟩ := hvr'
          obtain ⟨a', cA, ar, f1, f2, f3, f4, f5, f6⟩ := hR.hr.arr hget
          have ea := ex_at e1 f1
          subst ea
          obtain ⟨tk, ht⟩ := ex_ty_in f2
          exact row t ob a N j tk cA ar y xr' h1 f1 ht f3 f4 f5 (ex_vpin i1 i3 i4) i3 (ex_ft_ok h2 hN.g hsub (hR.stk (st' := ex_ov t ov j :: rest) ⟨f6 j i1, hr'⟩))
        · cases hs
      · cases hs
  · rename_i i rest
    split at hs
    · rename_i j hix
      obtain ⟨h1, h2⟩ := ex_bifs hs
      obtain ⟨h1, hI⟩ := ex_and h1
      obtain ⟨h1, h3⟩ := ex_and h1
      obtain ⟨x, xr, rfl, hvr, hr⟩ := ex_sr_cons hR.sr
      obtain ⟨x', xr', rfl, hvr', hr'⟩ := ex_sr_cons hr
      obtain ⟨y, rfl⟩ := ex_vr_int hvr hI
      obtain ⟨i1, i2, i3, i4⟩ := ex_ix_ok hR.er hix hvr
      have hvr' : x' = .ref b := hvr'
      subst hvr'
      exact row2 j y xr' h1 (ex_vpin i1 i3 i4) i3 (ex_ft_ok h2 hN.g hsub (hR.stk (st' := ex_v j :: rest) ⟨rfl, hr'⟩))
    · cases hs
  · cases hs
theorem ex_ov_set {t : Nat} {ov : List (Nat × ex_V)} {j : Nat} {v : ex_V} (i : Nat) : ex_ov t (ex_ovset ov j v) i = if i = j then v else ex_ov t ov i := by
  unfold ex_ov
  rw [ex_ovset_lk]
  by_cases hij : i = j
  · rw [if_pos hij, if_pos hij]
  · rw [if_neg hij, if_neg hij]
theorem ex_ast_ok {ok : Nat → ex_V → Option ex_V} (hs : ex_ast q r en lv st h n k1 k2 ok = some o) (hN : ex_N p l e R s m args below meth c Q D ρ b A mL w0 t0 pr o) (hsub : ∀ x ∈ q :: r, x ∈ pr) (hR : ex_Rl s D ρ b A mL w0 t0 en lv st h n ls xs ws tys H locs)
    (row : ∀ (t ob a N j tk : Nat) (cA : ClassId) (ar : vp_A) (y : Int32) (v v' : ex_V) (x : Value) (xr : List Value), ok t v = some v' → ex_vr ρ b ws v x → ws[ob]? = some (a, .inl (cA, ar)) → tys[tk]? = some (cA, ex_ty t) → t ≤ 4 → ar.1 = N → ex_ak t ar → vp_in y N → y.toNatClampNeg = j →
      ∃ ar' : vp_A, ar'.1 = N ∧ ex_ak t ar' ∧ (∀ i, i < N → i ≠ j → ex_ag ar' i = ex_ag ar i) ∧ (∀ ws' : va_W, ex_xt ws ws' → ex_vr ρ b ws' v' (ex_ag ar' j)) ∧ ((∀ (H1 : Heap) (locs1 : List Loc), va_P D vwCl (ws.set ob (a, .inl (cA, ar'))) H1 → va_D A (ws.set ob (a, .inl (cA, ar'))) → va_S A s.heap H1 locs1 → W p l e R s m args below meth c H1 locs1 k1 k2 Q (F0 m (q.1 + q.2.2.1) ls xr)) → W p l e R s m args below meth c H locs k1 k2 Q (F0 m q.1 ls (x :: .int y :: .ref a :: xr)))) : W p l e R s m args below meth c H locs k1 k2 Q (F0 m q.1 ls xs) := by
  unfold ex_ast at hs
  split at hs
  · rename_i v i ob rest
    split at hs
    · exact ex_spl_ok hs hN hsub hR
    · split at hs
      · rename_i t N ov hget
        split at hs
        · rename_i j hix
          split at hs
          · rename_i v' hv'
            obtain ⟨hI, h2⟩ := ex_bifs hs
            obtain ⟨x, xr, rfl, hvr, hr⟩ := ex_sr_cons hR.sr
            obtain ⟨x', xr', rfl, hvr', hr'⟩ := ex_sr_cons hr
            obtain ⟨x'', xr'', rfl, hvr'', hr''⟩ := ex_sr_cons hr'
            obtain ⟨y, rfl⟩ := ex_vr_int hvr' hI
            obtain ⟨i1, i2, i3, i4⟩ := ex_ix_ok hR.er hix hvr'
            obtain ⟨a, ev, e1, rfl⟩ := hvr''
            obtain ⟨a', cA, ar, f1, f2, f3, f4, f5, f6⟩ := hR.hr.arr hget
            have ea := ex_at e1 f1
            subst ea
            obtain ⟨tk, ht⟩ := ex_ty_in f2
            obtain ⟨ar', g1, g2, g3, g4, g5⟩ := row t ob a N j tk cA ar y v v' x xr'' hv' hvr f1 ht f3 f4 f5 (ex_vpin i1 i3 i4) i3
            refine g5 (fun H1 locs1 hP hD hS => ?_)
            have hx := ex_xt.set (e' := .inl (cA, ar')) f1
            have hcr : ex_cr ρ b tys (ws.set ob (a, .inl (cA, ar'))) (.inr (t, N, ex_ovset ov j v')) (.inl (cA, ar')) := ⟨f2, f3, g1, g2, fun z hz => by
              show ex_vr ρ b _ (ex_ov t (ex_ovset ov j v') z) (ex_ag ar' z)
              rw [ex_ov_set]
              split
              · rename_i hzj
                subst hzj
                exact g4 _ hx
              · rename_i hzj
                rw [g3 z hz hzj]
                exact (f6 z hz).mono hx⟩
            exact ex_ft_ok h2 hN.g hsub ((hR.stk hr'').world hx (fun _ h => h) (hR.hr.put f1 hcr) hR.hK hP hD hS)
          · cases hs
        · cases hs
      · cases hs
  · cases hs
theorem ex_cp_ov (a b' : List (Nat × ex_V)) (t sp dp : Nat) : ∀ (k i : Nat), ex_ov t (ex_cp a b' t sp dp k) i = if dp ≤ i ∧ i < dp + k then ex_ov t a (sp + (i - dp)) else ex_ov t b' i
  | 0, i => by
    rw [if_neg (by omega)]; rfl
  | k + 1, i => by
    show ex_ov t (ex_ovset (ex_cp a b' t sp dp k) (dp + k) (ex_ov t a (sp + k))) i = _
    rw [ex_ov_set, ex_cp_ov a b' t sp dp k i]
    by_cases h1 : i = dp + k
    · rw [if_pos h1, if_pos (by omega)]
      subst h1
      rw [show dp + k - dp = k by omega]
    · rw [if_neg h1]
      by_cases h2 : dp ≤ i ∧ i < dp + k
      · rw [if_pos h2, if_pos (by omega)]
      · rw [if_neg h2, if_neg (by omega)]
theorem ex_sum_le : ∀ {st : List ex_V} {xs : List Value}, ex_sr ρ b ws st xs → (xs.map fun v => v.category).sum ≤ 2 * st.length
  | [], [], _ => Nat.le_refl 0
  | [], _ :: _, h => h.elim
  | _ :: _, [], h => h.elim
  | v :: t, x :: r, h => by
    have ih := ex_sum_le h.2
    have := lv_cat x
    rw [List.map_cons, List.sum_cons, List.length_cons]
    omega
theorem ex_acp_ok {ix : Nat} (hl : Cond.methodLink own ix arraycopyName ∈ ex_tb) (hw1 : Cond.native arraycopyName ∈ ex_tb) (hw2 : Cond.static arraycopyName ∈ ex_tb) (hw3 : Cond.initialized "java/lang/System" ∈ ex_tb) (X : ex_X p R s m args meth c ρ b L A own nm cd mL d cap isl) (hlen : q.2.2.1 = 3) (hdg : decode cd q.1 = .ok (.invokestatic ix, 3))
    (hs : ex_acp q r en lv st h n k1 k2 = some o) (hN : ex_N p l e R s m args below meth c Q D ρ b A mL w0 t0 pr o) (hsub : ∀ x ∈ q :: r, x ∈ pr) (hR : ex_Rl s D ρ b A mL w0 t0 en lv st h n ls xs ws tys H locs) : W p l e R s m args below meth c H locs k1 k2 Q (F0 m q.1 ls xs) := by
  obtain ⟨x1, x2, x3, x4, x5, x6, x7, x8, x9, x10, x11, x12, x13⟩ := X
  unfold ex_acp at hs
  split at hs
  · rename_i vm vdp dob vsp sob rest
    split at hs
    · rename_i t N ov t' N' ov' g1 g2
      split at hs
      · rename_i m' s' d' j1 j2 j3
        obtain ⟨h1, h2⟩ := ex_bifs hs
        obtain ⟨h1, hc8⟩ := ex_and h1
        obtain ⟨h1, hI3⟩ := ex_and h1
        obtain ⟨h1, hI2⟩ := ex_and h1
        obtain ⟨h1, hI1⟩ := ex_and h1
        obtain ⟨h1, hc4⟩ := ex_and h1
        obtain ⟨h1, hc3⟩ := ex_and h1
        obtain ⟨hc1, hc2⟩ := ex_and h1
        have hc1 := ex_beq hc1
        have hc2 := ex_beq hc2
        have hc3 := ex_ble hc3
        have hc4 := ex_ble hc4
        have hc8 := ex_ble hc8
        rw [ex_len_eq] at hc8
        subst hc1
        subst hc2
        obtain ⟨y1, r1, rfl, v1, hr1⟩ := ex_sr_cons hR.sr
        obtain ⟨y2, r2, rfl, v2, hr2⟩ := ex_sr_cons hr1
        obtain ⟨y3, r3, rfl, v3, hr3⟩ := ex_sr_cons hr2
        obtain ⟨y4, r4, rfl, v4, hr4⟩ := ex_sr_cons hr3
        obtain ⟨y5, r5, rfl, v5, hr5⟩ := ex_sr_cons hr4
        obtain ⟨z1, rfl⟩ := ex_vr_int v1 hI1
        obtain ⟨z2, rfl⟩ := ex_vr_int v2 hI3
        obtain ⟨z4, rfl⟩ := ex_vr_int v4 hI2
        obtain ⟨a1, b1, c1, d1⟩ := ex_ix_ok hR.er j1 v1
        obtain ⟨a2, b2, c2, d2⟩ := ex_ix_ok hR.er j2 v4
        obtain ⟨a3, b3, c3, d3⟩ := ex_ix_ok hR.er j3 v2
        obtain ⟨ad, ed, w1, rfl⟩ := v3
        obtain ⟨as, es, w2, rfl⟩ := v5
        obtain ⟨as', cA, ar, f1, f2, f3, f4, f5, f6⟩ := hR.hr.arr g1
        obtain ⟨ad', cA', ar', f1', f2', f3', f4', f5', f6'⟩ := hR.hr.arr g2
        have ea := ex_at w2 f1
        subst ea
        have ea := ex_at w1 f1'
        subst ea
        obtain ⟨tk, ht⟩ := ex_ty_in f2
        obtain ⟨tk', ht'⟩ := ex_ty_in f2'
        obtain ⟨N0, arv⟩ := ar
        obtain ⟨N0', arv'⟩ := ar'
        dsimp only at f4 f4'
        subst f4
        subst f4'
        obtain ⟨f, rfl⟩ : ∃ f, arv = .inl f := f5
        obtain ⟨g, rfl⟩ : ∃ f, arv' = .inl f := f5'
        obtain ⟨lw, hl1, hl2⟩ := hR.1
        have hsum := ex_sum_le hr5
        refine va_copyi x1 x2 (x3.trans hl1.1.symm) x4 (x5 _ hl) (x5 _ hw1) (x5 _ hw2) (x5 _ hw3) hR.hK hR.hP hR.hD hR.hS sob dob tk tk' f1 f1' ht ht' rfl d2 d3 d1 (by rw [c1, c2]; exact hc3) (by rw [c1, c3]; exact hc4) (fun _ _ => rfl) (by omega) (by
          have hnw : nativeFrameWords "java/lang/System" "arraycopy" 5 ≤ 41 := by decide
          omega) hdg (fun H1 locs1 hP hD hS => ?_)
        rw [c1, c2, c3] at hP hD
        have hx := ex_xt.set (e' := .inl (cA', N0', .inl (va_cpy f g s' d' m'))) f1'
        have hcr : ex_cr ρ b tys (ws.set dob (ad, .inl (cA', N0', .inl (va_cpy f g s' d' m')))) (.inr (0, N0', ex_cp ov ov' 0 s' d' m')) (.inl (cA', N0', .inl (va_cpy f g s' d' m'))) := by
          refine ⟨f2', f3', rfl, ⟨_, rfl⟩, fun z hz => ?_⟩
          have hz : z < N0' := hz
          show ex_vr ρ b _ (ex_ov 0 (ex_cp ov ov' 0 s' d' m') z) (.int (va_cpy f g s' d' m' z))
          rw [ex_cp_ov]
          by_cases hin : d' ≤ z ∧ z < d' + m'
          · rw [if_pos hin, pk_cpy_in hin.1 hin.2]
            exact (f6 (s' + (z - d')) (show s' + (z - d') < N0 by omega)).mono hx
          · rw [if_neg hin, pk_cpy_out (by omega)]
            exact (f6' z hz).mono hx
        have W2 := ex_ft_ok h2 hN.g hsub ((hR.stk hr5).world hx (fun _ h => h) (hR.hr.put f1' hcr) hR.hK hP hD hS)
        rw [hlen] at W2
        exact W2
      · cases hs
    · cases hs
  · cases hs
end EXR
