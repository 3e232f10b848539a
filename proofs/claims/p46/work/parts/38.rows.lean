/-! the heap's rows -/
section TYR
variable {p : Program} {l : Launch} {en : Env} {R : Room} {s : State} {m : MethodId} {args : Array Value} {below : List Frame} {meth : Method} {c : Code} {k1 k2 : Nat} {Q : State → Prop} {D : va_G} {b : Nat} {sa : Nat → Nat} {A : Nat → Prop} {mL nr : Nat} {ρ0 ρ : Nat → Int} {w0 : va_W} {tys : List (ClassId × FieldType)} {ms : ty_M} {pr : List ex_P}
variable {e : ty_E} {lv : ty_L} {st : List ty_V} {K : ty_K} {ls : Array Slot} {xs : List Value} {ws : va_W} {H : Heap} {locs : List Loc} {q : ex_P} {r : List ex_P} {o : List (ty_E × ty_S)}
variable {σ : Nat → Int32} {L d : Nat} {own nm : String} {cd : ByteArray} {cap : Nat × Nat} {isl : Bool}
theorem ty_Rl.put (hR : ty_Rl s D b sa A mL nr w0 tys ms ρ e lv st K ls xs ws H locs) {j k a : Nat} {ev ev' : va_E} {cc : ty_C} (hk : ty_kl[j]? = some k) (hj : ws[j]? = some (a, ev)) (hc : ty_ct[k]? = some cc) (hv : ty_co tys (ws.set j (a, ev')) cc ev') (hf : ∀ i, ty_al ms k (some i) = false → ty_sl ev' i = ty_sl ev i) {K' : ty_K} (hK' : ty_Kr b sa e.1 ρ (ws.set j (a, ev')) K') {H1 : Heap} {locs1 : List Loc} (hP : va_P D vwCl (ws.set j (a, ev')) H1) (hD : va_D A (ws.set j (a, ev'))) (hS : va_S A s.heap H1 locs1) : ty_Rl s D b sa A mL nr w0 tys ms ρ e lv st K' ls xs (ws.set j (a, ev')) H1 locs1 := by
  have hx : ex_xt ws (ws.set j (a, ev')) := ex_xt.set hj
  obtain ⟨⟨lw, a1, a2⟩, a3, a4, a5, a6, a7, a8, a9, a10, a11, a12, a13⟩ := hR
  exact ⟨⟨lw, a1, a2.mono (fun _ _ => rfl) (Nat.le_refl _) hx⟩, a3, a4.mono (fun _ _ => rfl) (Nat.le_refl _) hx, hK', a6.put hk hj hc hv, a7.put hk hj hf, a8, a9, hP, hD, hS, a13.tr hx⟩
theorem ty_gf_ok {ix : Nat} {rc : vw_C} (hc : vwCl[q.2.2.2.1]? = some rc) (hk : q.2.2.2.2.1 < rc.2.2) (hl : Cond.fieldLink own ix (rc.2.1 q.2.2.2.2.1).1 (rc.2.1 q.2.2.2.2.1).2.1 (rc.2.1 q.2.2.2.2.1).2.2.1 ∈ ex_tb) (X : ex_X p R s m args meth c σ b L A own nm cd mL d cap isl) (hlen : q.2.2.1 = 3) (hdg : decode cd q.1 = .ok (.getfield ix, 3))
    (hs : ty_gf q r e lv st K = some o) (hN : ty_NN p l en R s m args below meth c k1 k2 Q D b sa A mL nr ρ0 w0 tys ms pr o) (hsub : ∀ x ∈ q :: r, x ∈ pr) (ha : ty_ag nr ρ0 ρ) (hR : ty_Rl s D b sa A mL nr w0 tys ms ρ e lv st K ls xs ws H locs) : W p l en R s m args below meth c H locs k1 k2 Q (F0 m q.1 ls xs) := by
  unfold ty_gf at hs
  split at hs
  · rename_i k tc rest
    split at hs
    · rename_i ci fs hct
      split at hs
      · rename_i f hf
        obtain ⟨h1, h2⟩ := ex_bifs hs
        have h1 := ex_beq h1
        subst h1
        obtain ⟨x, xr, rfl, ⟨j, a, ev, c1, c2, c3, rfl⟩, hr⟩ := ty_sr_cons hR.sr
        obtain ⟨-, vs, rfl, fv⟩ := hR.th.obj c2 c3 hct
        obtain ⟨y, g1, g2⟩ := fv _ f (by rw [← ex_nth_get]; exact hf)
        split at h2
        · rename_i e' K' v hrd
          obtain ⟨ρ', a1, a2, a3, a4, a5⟩ := ty_rd_ok (i := q.2.2.2.2.1) hR.er hR.Kr c1 (ty_is_k _ _ _) c2 c3 g1 g2 hrd
          obtain ⟨x1, x2, x3, x4, x5, x6⟩ := X
          have W1 := ty_ft_ok h2 hN hsub (ha.tr a1 hR.nle) ((((hR.stk hr).env a1 a3 a2).kn a4).push a5)
          rw [hlen] at W1
          exact va_get (C := rc.1) (T := rc.2.1) (N := rc.2.2) x1 x2 x5 (ex_cli hc).1 x4 hR.hK hR.hP j c3 hc _ hk (x5 _ hl) (fun _ h9 => h9) g1 hdg W1
        · cases h2
      · cases hs
    · cases hs
  · cases hs
theorem ty_pf_ok {ix : Nat} {rc : vw_C} (hc : vwCl[q.2.2.2.1]? = some rc) (hk : q.2.2.2.2.1 < rc.2.2) (hl : Cond.fieldLink own ix (rc.2.1 q.2.2.2.2.1).1 (rc.2.1 q.2.2.2.2.1).2.1 (rc.2.1 q.2.2.2.2.1).2.2.1 ∈ ex_tb) (hfin : (rc.2.1 q.2.2.2.2.1).2.2.2 = false) (htk : ty_tk q.2.2.2.2.2.1 (rc.2.1 q.2.2.2.2.1).2.2.1 = true) (X : ex_X p R s m args meth c σ b L A own nm cd mL d cap isl) (hlen : q.2.2.1 = 3) (hdg : decode cd q.1 = .ok (.putfield ix, 3))
    (hs : ty_pf ms q r e lv st K = some o) (hN : ty_NN p l en R s m args below meth c k1 k2 Q D b sa A mL nr ρ0 w0 tys ms pr o) (hsub : ∀ x ∈ q :: r, x ∈ pr) (ha : ty_ag nr ρ0 ρ) (hR : ty_Rl s D b sa A mL nr w0 tys ms ρ e lv st K ls xs ws H locs) : W p l en R s m args below meth c H locs k1 k2 Q (F0 m q.1 ls xs) := by
  unfold ty_pf at hs
  split at hs
  · rename_i v k tc rest
    split at hs
    · rename_i ci fs hct
      split at hs
      · rename_i f hf
        obtain ⟨h1, h2⟩ := ex_bifs hs
        obtain ⟨h1, h4⟩ := ex_and h1
        obtain ⟨h1, h3⟩ := ex_and h1
        have h1 := ex_beq h1
        subst h1
        obtain ⟨x, xr, rfl, hvr, hr⟩ := ty_sr_cons hR.sr
        obtain ⟨x', xr', rfl, ⟨j, a, ev, c1, c2, c3, rfl⟩, hr'⟩ := ty_sr_cons hr
        obtain ⟨hct', vs, rfl, fv⟩ := hR.th.obj c2 c3 hct
        have hf : fs[q.2.2.2.2.1]? = some f := by rw [← ex_nth_get]; exact hf
        obtain ⟨y, g1, g2⟩ := fv _ f hf
        obtain ⟨ft, t1, t2⟩ := ty_tk_ok htk
        obtain ⟨n1, n2, n3⟩ := ty_okv_ok hR.er h3 hvr t2
        have hlt : q.2.2.2.2.1 < vs.length := (List.getElem?_eq_some_iff.mp g1).1
        obtain ⟨cw, ⟨ty0, hty0⟩, hnm⟩ := ex_cli hc
        obtain ⟨x1, x2, x3, x4, x5, x6, x7, x8, x9, x10, x11⟩ := X
        have hx := ex_xt.set (e' := .inr (q.2.2.2.1, vs.set q.2.2.2.2.1 x)) c3
        have hco : ty_co tys (ws.set j (a, .inr (q.2.2.2.1, vs.set q.2.2.2.2.1 x))) (.inl (q.2.2.2.1, fs)) (.inr (q.2.2.2.1, vs.set q.2.2.2.2.1 x)) := by
          refine ⟨rfl, fun i f' hi => ?_⟩
          show ∃ z, (vs.set q.2.2.2.2.1 x)[i]? = some z ∧ _
          have hi : fs[i]? = some f' := hi
          by_cases hij : q.2.2.2.2.1 = i
          · subst hij
            rw [hf] at hi
            cases hi
            exact ⟨x, by rw [List.getElem?_set_self hlt], n3.mono hx⟩
          · obtain ⟨z, z1, z2⟩ := fv i f' hi
            exact ⟨z, by rw [List.getElem?_set_ne hij]; exact z1, z2.mono hx⟩
        have hsl : ∀ i, i ≠ q.2.2.2.2.1 → ty_sl (.inr (q.2.2.2.1, vs.set q.2.2.2.2.1 x)) i = ty_sl (.inr (q.2.2.2.1, vs)) i := fun i hi => by
          show (vs.set q.2.2.2.2.1 x)[i]? = vs[i]?
          rw [List.getElem?_set_ne (Ne.symm hi)]
        have hfr : ∀ i, ty_al ms k (some i) = false → ty_sl (.inr (q.2.2.2.1, vs.set q.2.2.2.2.1 x)) i = ty_sl (.inr (q.2.2.2.1, vs)) i := fun i hi => hsl i (fun z => by rw [z, h4] at hi; cases hi)
        have hKw := hR.Kr.puts (ev' := .inr (q.2.2.2.1, vs.set q.2.2.2.2.1 x)) hR.er c2 c3 (ty_is_k e.1 ρ (q.2.2.2.2.1 : Int)) hsl
        have hKr : ty_Kr b sa e.1 ρ (ws.set j (a, .inr (q.2.2.2.1, vs.set q.2.2.2.2.1 x))) (bif ty_isK v then (k, tc, ty_k (q.2.2.2.2.1 : Int), v) :: ty_kw e K k (some (ty_k (q.2.2.2.2.1 : Int))) else ty_kw e K k (some (ty_k (q.2.2.2.2.1 : Int)))) := by
          cases hb : ty_isK v with
          | false => exact hKw
          | true => exact hKw.cons (ev := .inr (q.2.2.2.1, vs.set q.2.2.2.2.1 x)) (a := a) (x := x) c2 (by rw [List.getElem?_set_self (List.getElem?_eq_some_iff.mp c3).1]) c1 (ty_is_k _ _ _) (show (vs.set q.2.2.2.2.1 x)[q.2.2.2.2.1]? = some x by rw [List.getElem?_set_self hlt]) (hvr.mono (fun _ _ => rfl) (Nat.le_refl _) hx) hb
        have W1 : ∀ (H1 : Heap) (locs1 : List Loc), va_P D vwCl (ws.set j (a, .inr (q.2.2.2.1, vs.set q.2.2.2.2.1 x))) H1 → va_D A (ws.set j (a, .inr (q.2.2.2.1, vs.set q.2.2.2.2.1 x))) → va_S A s.heap H1 locs1 → W p l en R s m args below meth c H1 locs1 k1 k2 Q (F0 m (q.1 + 3) ls xr') := fun H1 locs1 hP hD hS => by
          have W2 := ty_ft_ok h2 hN hsub ha ((hR.stk hr').put c2 c3 hct' hco hfr hKr hP hD hS)
          rw [hlen] at W2
          exact W2
        exact va_put (C := rc.1) (T := rc.2.1) (N := rc.2.2) x1 x2 x5 cw ty0 hty0 hnm x4 hR.hK hR.hP hR.hD hR.hS j c3 hc _ hk (x5 _ hl) (fun _ h9 => h9) hfin t1 n1 n2 hlt hdg W1
      · cases hs
    · cases hs
  · cases hs
theorem ty_len_ok (X : ex_X p R s m args meth c σ b L A own nm cd mL d cap isl) (hL : isl = true → (ρ0 0 = (L : Int) ∧ 0 < nr ∧ L < 2147483648) ∧ ∀ i : Nat, ((sa (1000 + i) : Nat) : Int) - 2147483648 = (σ i).toInt) (hlen : q.2.2.1 = 1) (hdg : decode cd q.1 = .ok (.arraylength, 1))
    (hs : ty_len isl q r e lv st K = some o) (hN : ty_NN p l en R s m args below meth c k1 k2 Q D b sa A mL nr ρ0 w0 tys ms pr o) (hsub : ∀ x ∈ q :: r, x ∈ pr) (ha : ty_ag nr ρ0 ρ) (hR : ty_Rl s D b sa A mL nr w0 tys ms ρ e lv st K ls xs ws H locs) : W p l en R s m args below meth c H locs k1 k2 Q (F0 m q.1 ls xs) := by
  obtain ⟨x1, x2, x3, x4, x5, x6, x7, x8, x9, x10, x11, x12⟩ := X
  unfold ty_len at hs
  split at hs
  · rename_i k tc rest
    split at hs
    · rename_i t N f hct
      obtain ⟨h1, h2⟩ := ex_bifs hs
      have h1 := ex_ble h1
      obtain ⟨x, xr, rfl, ⟨j, a, ev, c1, c2, c3, rfl⟩, hr⟩ := ty_sr_cons hR.sr
      obtain ⟨-, cA, ar, rfl, f2, f3, f4, f5, f6⟩ := hR.th.arr c2 c3 hct
      obtain ⟨tk, ht⟩ := ex_ty_in f2
      have hv : ty_vr b sa e.1 ρ ws (ty_i (ty_k (N : Int))) (.int (Int32.ofNat ar.1)) := ⟨Int32.ofNat ar.1, rfl, (by
        have : (Int32.ofNat ar.1).toInt = (N : Int) := by
          rw [f4]
          exact nI_toInt (by omega)
        rw [this]
        exact ty_is_k _ _ _)⟩
      have W1 := ty_ft_ok h2 hN hsub ha ((hR.stk hr).push hv)
      rw [hlen] at W1
      exact va_alen x1 x2 hR.hK hR.hP j tk c3 ht rfl hdg W1
    · cases hs
  · rename_i rest
    obtain ⟨h1, h2⟩ := ex_bifs hs
    obtain ⟨h1, h3⟩ := ex_and h1
    obtain ⟨x, xr, rfl, hvr, hr⟩ := ty_sr_cons hR.sr
    have hvr : x = .ref b := hvr
    subst hvr
    obtain ⟨hX, hbl, hbA⟩ := x9 h1
    obtain ⟨⟨l1, l2, l3⟩, l4⟩ := hL h1
    have hv : ty_vr b sa e.1 ρ ws (ty_i (ty_s 0)) (.int (Int32.ofNat L)) := ⟨Int32.ofNat L, rfl, ty_s_sc (ex_blt h3), (by
      rw [ty_s_ev, ← ha 0 l2, l1]
      exact (nI_toInt (by omega)).symm)⟩
    have W1 := ty_ft_ok h2 hN hsub ha ((hR.stk hr).push hv)
    rw [hlen] at W1
    exact va_slen x1 x2 hX hbl hbA hR.hS hdg W1
  · cases hs
theorem ty_ald_ok {ok : Nat → Bool} {il : Bool} (hL : il = true → (ρ0 0 = (L : Int) ∧ 0 < nr ∧ L < 2147483648) ∧ ∀ i : Nat, ((sa (1000 + i) : Nat) : Int) - 2147483648 = (σ i).toInt) (hs : ty_ald il ok q r e lv st K = some o) (hN : ty_NN p l en R s m args below meth c k1 k2 Q D b sa A mL nr ρ0 w0 tys ms pr o) (hsub : ∀ x ∈ q :: r, x ∈ pr) (ha : ty_ag nr ρ0 ρ) (hR : ty_Rl s D b sa A mL nr w0 tys ms ρ e lv st K ls xs ws H locs)
    (row : ∀ (t j a N i tk : Nat) (cA : ClassId) (ar : vp_A) (y : Int32) (xr : List Value), ok t = true → ws[j]? = some (a, .inl (cA, ar)) → tys[tk]? = some (cA, ex_ty t) → t ≤ 4 → ar.1 = N → ex_ak t ar → vp_in y N → y.toNatClampNeg = i → W p l en R s m args below meth c H locs k1 k2 Q (F0 m (q.1 + q.2.2.1) ls (ex_ag ar i :: xr)) → W p l en R s m args below meth c H locs k1 k2 Q (F0 m q.1 ls (.int y :: .ref a :: xr)))
    (row2 : ∀ (i : Nat) (y : Int32) (xr : List Value), il = true → vp_in y L → y.toNatClampNeg = i → W p l en R s m args below meth c H locs k1 k2 Q (F0 m (q.1 + q.2.2.1) ls (.int (σ i) :: xr)) → W p l en R s m args below meth c H locs k1 k2 Q (F0 m q.1 ls (.int y :: .ref b :: xr))) : W p l en R s m args below meth c H locs k1 k2 Q (F0 m q.1 ls xs) := by
  unfold ty_ald at hs
  split at hs
  · rename_i ti k tc rest
    split at hs
    · rename_i t N f hct
      obtain ⟨h1, h2⟩ := ex_bifs hs
      obtain ⟨h1, h3⟩ := ex_and h1
      obtain ⟨x0, x1, rfl, ⟨y, rfl, hy⟩, hr1⟩ := ty_sr_cons hR.sr
      obtain ⟨x2, x3, rfl, ⟨j, a, ev, c1, c2, c3, rfl⟩, hr⟩ := ty_sr_cons hr1
      obtain ⟨-, cA, ar, rfl, f2, f3, f4, f5, f6⟩ := hR.th.arr c2 c3 hct
      have hb := ty_in_ok hR.er h3
      rw [hy.2] at hb
      obtain ⟨i1, i2, i3, i4⟩ := ty_ix hb.1 hb.2
      obtain ⟨tk, ht⟩ := ex_ty_in f2
      split at h2
      · rename_i e' K' v hrd
        obtain ⟨ρ', a1, a2, a3, a4, a5⟩ := ty_rd_ok (i := y.toNatClampNeg) (x := ex_ag ar y.toNatClampNeg) hR.er hR.Kr c1 (by rw [i3]; exact hy) c2 c3 (by
          show (if y.toNatClampNeg < ar.1 then some (ex_ag ar y.toNatClampNeg) else none) = _
          rw [if_pos (by rw [f4]; exact i2)]) (f6 _ i2) hrd
        exact row t j a N _ tk cA ar y x3 h1 c3 ht f3 f4 f5 i1 rfl (ty_ft_ok h2 hN hsub (ha.tr a1 hR.nle) ((((hR.stk hr).env a1 a3 a2).kn a4).push a5))
      · cases h2
    · cases hs
  · rename_i ti rest
    obtain ⟨h1, h2⟩ := ex_bifs hs
    obtain ⟨h1, h6⟩ := ex_and h1
    obtain ⟨h1, h5⟩ := ex_and h1
    obtain ⟨h1, h4⟩ := ex_and h1
    obtain ⟨h1, h3⟩ := ex_and h1
    obtain ⟨x0, x1, rfl, ⟨y, rfl, hy⟩, hr1⟩ := ty_sr_cons hR.sr
    obtain ⟨x2, x3, rfl, hvr, hr⟩ := ty_sr_cons hr1
    have hvr : x2 = .ref b := hvr
    subst hvr
    obtain ⟨⟨l1, l2, l3⟩, l4⟩ := hL h1
    have h5 := ty_ent_ok hR.er h5
    have h6 := ty_ent_ok hR.er h6
    rw [ty_sub_ev, ty_k_ev, hy.2] at h5
    rw [ty_pl_ev, ty_sub_ev, hy.2, ty_s_ev, ← ha 0 l2, l1] at h6
    obtain ⟨i1, i2, i3, i4⟩ := ty_ix (y := y) (N := L) (by omega) (by omega)
    have h2 : (match ty_kf e K 1015 (ty_k 0) ti with
      | some v => bif ty_isI v then ty_ft q r e lv (v :: rest) K else none
      | none => ty_ft q r (ty_fr e ty_MIN ty_MAX []) lv (ty_i (ty_s e.1) :: rest) ((1015, ty_k 0, ti, ty_i (ty_s e.1)) :: K)) = some o := h2
    have hyi : ty_is e.1 ρ ti (y.toNatClampNeg : Int) := by rw [i3]; exact hy
    split at h2
    · rename_i v hv
      obtain ⟨g1, g2⟩ := ex_bifs h2
      obtain ⟨z, z1, z2, z3, z4, z5⟩ := ty_kf_ok hv
      refine row2 _ y x3 h1 i1 rfl (ty_ft_ok g2 hN hsub ha ((hR.stk hr).push (v := v) (x := .int (σ y.toNatClampNeg)) ?_))
      rcases hR.Kr z z1 with ⟨hg, -⟩ | ⟨-, hg⟩
      · rw [z2] at hg; cases hg
      rcases hg with hg | hg | ⟨-, i, w, k1', k2', k3'⟩
      · rcases hg with ⟨g, -⟩ | ⟨g, -⟩ | ⟨g, -⟩ | ⟨g, -⟩ | ⟨g, -⟩ | ⟨g, -⟩ | ⟨g, -⟩ <;> omega
      · rcases hg with ⟨g, -⟩ | ⟨g, -⟩ | ⟨g, -⟩ | ⟨g, -⟩ | ⟨g, -⟩ | ⟨g, -⟩ | ⟨g, -⟩ <;> omega
      · have e1 := ty_sm_ok hR.er z3 k1' hyi
        have e1 : i = y.toNatClampNeg := by omega
        subst e1
        rw [← z5, k2']
        rw [l4] at k3'
        exact ⟨_, rfl, k3'⟩
    · obtain ⟨ρ', a1, a2, a3, a4⟩ := ty_res0 hR.er (ty_rg (σ y.toNatClampNeg)).1 (ty_rg (σ y.toNatClampNeg)).2
      have hR' := ((hR.stk hr).env a1 a3 a2).push (v := ty_i (ty_s e.1)) (x := .int (σ y.toNatClampNeg)) ⟨_, rfl, a4⟩
      refine row2 _ y x3 h1 i1 rfl (ty_ft_ok h2 hN hsub (ha.tr a1 hR.nle) (hR'.kn (fun z hz => ?_)))
      rcases List.mem_cons.mp hz with rfl | hz
      · exact Or.inr ⟨rfl, Or.inr (Or.inr ⟨rfl, y.toNatClampNeg, ty_s e.1, hyi.mono a1 a3, rfl, by rw [l4]; exact a4⟩)⟩
      · exact hR'.Kr z hz
  · cases hs
theorem ty_okw_isK {t : Nat} {f : ty_F} {v : ty_V} (h : ty_okw e t f v = true) : ty_isK v = true := by
  unfold ty_okw at h
  split at h
  · rfl
  · rfl
  · cases h
theorem ty_ast_ok {ok : Nat → Bool} (hs : ty_ast ms ok q r e lv st K = some o) (hN : ty_NN p l en R s m args below meth c k1 k2 Q D b sa A mL nr ρ0 w0 tys ms pr o) (hsub : ∀ x ∈ q :: r, x ∈ pr) (ha : ty_ag nr ρ0 ρ) (hR : ty_Rl s D b sa A mL nr w0 tys ms ρ e lv st K ls xs ws H locs)
    (row : ∀ (t j a N i tk : Nat) (cA : ClassId) (ar : vp_A) (y : Int32) (v : ty_V) (f : ty_F) (x : Value) (xr : List Value), ok t = true → ty_okw e t f v = true → ty_vr b sa e.1 ρ ws v x → ws[j]? = some (a, .inl (cA, ar)) → tys[tk]? = some (cA, ex_ty t) → t ≤ 4 → ar.1 = N → ex_ak t ar → vp_in y N → y.toNatClampNeg = i →
      ∃ ar' : vp_A, ar'.1 = N ∧ ex_ak t ar' ∧ (∀ i', i' ≠ i → ex_ag ar' i' = ex_ag ar i') ∧ (∀ ws' : va_W, ty_fo ws' f (ex_ag ar' i)) ∧ (t = 0 → ex_ag ar' i = x) ∧ ((∀ (H1 : Heap) (locs1 : List Loc), va_P D vwCl (ws.set j (a, .inl (cA, ar'))) H1 → va_D A (ws.set j (a, .inl (cA, ar'))) → va_S A s.heap H1 locs1 → W p l en R s m args below meth c H1 locs1 k1 k2 Q (F0 m (q.1 + q.2.2.1) ls xr)) → W p l en R s m args below meth c H locs k1 k2 Q (F0 m q.1 ls (x :: .int y :: .ref a :: xr)))) : W p l en R s m args below meth c H locs k1 k2 Q (F0 m q.1 ls xs) := by
  unfold ty_ast at hs
  split at hs
  · rename_i v ti k tc rest
    split at hs
    · rename_i t N f hct
      obtain ⟨h1, h2⟩ := ex_bifs hs
      obtain ⟨h1, h5⟩ := ex_and h1
      obtain ⟨h1, h4⟩ := ex_and h1
      obtain ⟨h1, h3⟩ := ex_and h1
      obtain ⟨x, x0, rfl, hvr, hr0⟩ := ty_sr_cons hR.sr
      obtain ⟨x1, x2, rfl, ⟨y, rfl, hy⟩, hr1⟩ := ty_sr_cons hr0
      obtain ⟨x3, x4, rfl, ⟨j, a, ev, c1, c2, c3, rfl⟩, hr⟩ := ty_sr_cons hr1
      obtain ⟨hct', cA, ar, rfl, f2, f3, f4, f5, f6⟩ := hR.th.arr c2 c3 hct
      have hb := ty_in_ok hR.er h4
      rw [hy.2] at hb
      obtain ⟨i1, i2, i3, i4⟩ := ty_ix hb.1 hb.2
      obtain ⟨tk, ht⟩ := ex_ty_in f2
      obtain ⟨ar', g1, g2, g3, g4, g5, g6⟩ := row t j a N _ tk cA ar y v f x x4 h1 h3 hvr c3 ht f3 f4 f5 i1 rfl
      refine g6 (fun H1 locs1 hP hD hS => ?_)
      have hx := ex_xt.set (e' := .inl (cA, ar')) c3
      have hco : ty_co tys (ws.set j (a, .inl (cA, ar'))) (.inr (t, N, f)) (.inl (cA, ar')) := ⟨f2, f3, g1, g2, fun z hz => by
        show ty_fo _ f (ex_ag ar' z)
        by_cases hzj : z = y.toNatClampNeg
        · rw [hzj]; exact g4 _
        · rw [g3 z hzj]; exact (f6 z hz).mono hx⟩
      have hsl : ∀ i, i ≠ y.toNatClampNeg → ty_sl (.inl (cA, ar')) i = ty_sl (.inl (cA, ar)) i := fun i hi => by
        show (if i < ar'.1 then some (ex_ag ar' i) else none) = if i < ar.1 then some (ex_ag ar i) else none
        rw [g1, f4, g3 i hi]
      have hfr : ∀ i, ty_al ms k (some i) = false → ty_sl (.inl (cA, ar')) i = ty_sl (.inl (cA, ar)) i := fun i hi => by rw [ty_al_n h5 i] at hi; cases hi
      have hKr : ty_Kr b sa e.1 ρ (ws.set j (a, .inl (cA, ar'))) (bif ex_any (Nat.beq k) ty_tr && Nat.beq t 0 then (k, tc, ti, v) :: ty_kw e K k (some ti) else ty_kw e K k none) := by
        cases hb : (ex_any (Nat.beq k) ty_tr && Nat.beq t 0) with
        | false => exact hR.Kr.putn c2 c3
        | true =>
          have ht0 := ex_beq (ex_and hb).2
          have hi : ty_is e.1 ρ ti (y.toNatClampNeg : Int) := by rw [i3]; exact hy
          refine (hR.Kr.puts hR.er c2 c3 hi hsl).cons (ev := .inl (cA, ar')) (a := a) c2 (by rw [List.getElem?_set_self (List.getElem?_eq_some_iff.mp c3).1]) c1 hi (x := x) ?_ (hvr.mono (fun _ _ => rfl) (Nat.le_refl _) hx) (ty_okw_isK h3)
          show (if y.toNatClampNeg < ar'.1 then some (ex_ag ar' y.toNatClampNeg) else none) = some x
          rw [if_pos (by rw [g1]; exact i2), g5 ht0]
      exact ty_ft_ok h2 hN hsub ha ((hR.stk hr).put c2 c3 hct' hco hfr hKr hP hD hS)
    · cases hs
  · cases hs
theorem ty_acp_ok {ix : Nat} (hl : Cond.methodLink own ix arraycopyName ∈ ex_tb) (hw1 : Cond.native arraycopyName ∈ ex_tb) (hw2 : Cond.static arraycopyName ∈ ex_tb) (hw3 : Cond.initialized "java/lang/System" ∈ ex_tb) (X : ex_X p R s m args meth c σ b L A own nm cd mL d cap isl) (hlen : q.2.2.1 = 3) (hdg : decode cd q.1 = .ok (.invokestatic ix, 3))
    (hs : ty_acp ms q r e lv st K = some o) (hN : ty_NN p l en R s m args below meth c k1 k2 Q D b sa A mL nr ρ0 w0 tys ms pr o) (hsub : ∀ x ∈ q :: r, x ∈ pr) (ha : ty_ag nr ρ0 ρ) (hR : ty_Rl s D b sa A mL nr w0 tys ms ρ e lv st K ls xs ws H locs) : W p l en R s m args below meth c H locs k1 k2 Q (F0 m q.1 ls xs) := by
  obtain ⟨x1, x2, x3, x4, x5, x6, x7, x8, x9, x10, x11, x12, x13⟩ := X
  unfold ty_acp at hs
  split at hs
  · rename_i tm tdp k' tc' tsp k tc rest
    split at hs
    · rename_i t N lo hi t' N' lo' hi' g1 g2
      obtain ⟨h1, h2⟩ := ex_bifs hs
      obtain ⟨h1, h13⟩ := ex_and h1
      obtain ⟨h1, h12⟩ := ex_and h1
      obtain ⟨h1, h11⟩ := ex_and h1
      obtain ⟨h1, h10⟩ := ex_and h1
      obtain ⟨h1, h9⟩ := ex_and h1
      obtain ⟨h1, h8⟩ := ex_and h1
      obtain ⟨h1, h7⟩ := ex_and h1
      obtain ⟨h1, h6⟩ := ex_and h1
      obtain ⟨h1, h5⟩ := ex_and h1
      obtain ⟨h1, h4⟩ := ex_and h1
      have h1 := ex_beq h1
      have h4 := ex_beq h4
      subst h1
      subst h4
      have h5 := ty_ent_ok hR.er h5
      have h6 := ty_ent_ok hR.er h6
      have h7 := ty_ent_ok hR.er h7
      have h8 := ty_ent_ok hR.er h8
      have h9 := ty_ent_ok hR.er h9
      have h10 := ty_le_t h10
      have h11 := ty_le_t h11
      have h12 := ex_ble h12
      rw [ex_len_eq] at h12
      obtain ⟨y1, r1, rfl, ⟨z1, rfl, v1⟩, hr1⟩ := ty_sr_cons hR.sr
      obtain ⟨y2, r2, rfl, ⟨z2, rfl, v2⟩, hr2⟩ := ty_sr_cons hr1
      obtain ⟨y3, r3, rfl, ⟨jd, ad, evd, d1, d2, d3, rfl⟩, hr3⟩ := ty_sr_cons hr2
      obtain ⟨y4, r4, rfl, ⟨z4, rfl, v4⟩, hr4⟩ := ty_sr_cons hr3
      obtain ⟨y5, r5, rfl, ⟨js, as, evs, s1, s2, s3, rfl⟩, hr5⟩ := ty_sr_cons hr4
      dsimp only at d2 s2
      rw [ty_sub_ev, ty_k_ev, v1.2] at h5
      rw [ty_sub_ev, ty_k_ev, v4.2] at h6
      rw [ty_sub_ev, ty_k_ev, v2.2] at h7
      rw [ty_pl_ev, ty_add_ev, v4.2, v1.2] at h8
      rw [ty_pl_ev, ty_add_ev, v2.2, v1.2] at h9
      obtain ⟨-, cA, ar, rfl, f2, f3, f4, f5, f6⟩ := hR.th.arr s2 s3 g1
      obtain ⟨hct', cA', ar', rfl, f2', f3', f4', f5', f6'⟩ := hR.th.arr d2 d3 g2
      obtain ⟨tk, ht⟩ := ex_ty_in f2
      obtain ⟨tk', ht'⟩ := ex_ty_in f2'
      obtain ⟨N0, arv⟩ := ar
      obtain ⟨N0', arv'⟩ := ar'
      dsimp only at f4 f4'
      subst f4
      subst f4'
      obtain ⟨f, rfl⟩ : ∃ f, arv = .inl f := f5
      obtain ⟨g, rfl⟩ : ∃ f, arv' = .inl f := f5'
      obtain ⟨lw, hl1, hl2⟩ := hR.1
      have hsum := ty_sum_le hr5
      obtain ⟨-, -, i1, n1⟩ := ty_ix (y := z1) (N := 4294967296) (by omega) (by have := ty_rg z1; omega)
      obtain ⟨-, -, i2, n2⟩ := ty_ix (y := z2) (N := 4294967296) (by omega) (by have := ty_rg z2; omega)
      obtain ⟨-, -, i4, n4⟩ := ty_ix (y := z4) (N := 4294967296) (by omega) (by have := ty_rg z4; omega)
      refine va_copyi x1 x2 (x3.trans hl1.1.symm) x4 (x5 _ hl) (x5 _ hw1) (x5 _ hw2) (x5 _ hw3) hR.hK hR.hP hR.hD hR.hS js jd tk tk' s3 d3 ht ht' rfl n4 n2 n1 (by omega) (by omega) (fun _ _ => rfl) (by omega) (by
        have hnw : nativeFrameWords "java/lang/System" "arraycopy" 5 ≤ 41 := by decide
        omega) hdg (fun H1 locs1 hP hD hS => ?_)
      have hx := ex_xt.set (e' := .inl (cA', N0', .inl (va_cpy f g z4.toNatClampNeg z2.toNatClampNeg z1.toNatClampNeg))) d3
      have hco : ty_co tys (ws.set jd (ad, .inl (cA', N0', .inl (va_cpy f g z4.toNatClampNeg z2.toNatClampNeg z1.toNatClampNeg)))) (.inr (0, N0', .inl (lo', hi'))) (.inl (cA', N0', .inl (va_cpy f g z4.toNatClampNeg z2.toNatClampNeg z1.toNatClampNeg))) := by
        refine ⟨f2', f3', rfl, ⟨_, rfl⟩, fun z hz => ?_⟩
        have hz : z < N0' := hz
        show ty_fo _ (.inl (lo', hi')) (.int (va_cpy f g z4.toNatClampNeg z2.toNatClampNeg z1.toNatClampNeg z))
        by_cases hin : z2.toNatClampNeg ≤ z ∧ z < z2.toNatClampNeg + z1.toNatClampNeg
        · rw [pk_cpy_in hin.1 hin.2]
          obtain ⟨y, y1, y2, y3⟩ := f6 (z4.toNatClampNeg + (z - z2.toNatClampNeg)) (by omega)
          exact ⟨y, y1, by omega, by omega⟩
        · rw [pk_cpy_out (by omega)]
          exact (f6' z hz).mono hx
      have hfr : ∀ i, ty_al ms k' (some i) = false → ty_sl (.inl (cA', N0', .inl (va_cpy f g z4.toNatClampNeg z2.toNatClampNeg z1.toNatClampNeg))) i = ty_sl (.inl (cA', N0', .inl g)) i := fun i hi => by rw [ty_al_n h13 i] at hi; cases hi
      have W2 := ty_ft_ok h2 hN hsub ha ((hR.stk hr5).put d2 d3 hct' hco hfr (hR.Kr.putn d2 d3) hP hD hS)
      rw [hlen] at W2
      exact W2
    · cases hs
  · cases hs
end TYR
