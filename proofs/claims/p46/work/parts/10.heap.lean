section EXH
variable {p : Program} {l : Launch} {e : Env} {R : Room} {s : State} {m : MethodId} {args : Array Value} {below : List Frame} {meth : Method} {c : Code} {Q : State → Prop} {D : va_G} {ρ : Nat → Int32} {b L : Nat} {A : Nat → Prop} {mL d : Nat} {w0 : va_W} {t0 : List (ClassId × FieldType)} {pr : List ex_P} {own nm : String} {cd : ByteArray} {cap : Nat × Nat} {isl : Bool}
variable {en : ex_E} {lv : ex_L} {st : List ex_V} {h : ex_H} {n k1 k2 : Nat} {ls : Array Slot} {xs : List Value} {ws : va_W} {tys : List (ClassId × FieldType)} {H : Heap} {locs : List Loc} {q : ex_P} {r : List ex_P} {o : List (ex_E × ex_S)}
theorem ex_Rl.hr (hR : ex_Rl s D ρ b A mL w0 t0 en lv st h n ls xs ws tys H locs) : ex_hr ρ b tys ws h n := hR.2.2.2.1
theorem ex_Rl.hK (hR : ex_Rl s D ρ b A mL w0 t0 en lv st h n ls xs ws tys H locs) : va_K D vwCl tys s := hR.2.2.2.2.1
theorem ex_Rl.hP (hR : ex_Rl s D ρ b A mL w0 t0 en lv st h n ls xs ws tys H locs) : va_P D vwCl ws H := hR.2.2.2.2.2.1
theorem ex_Rl.hD (hR : ex_Rl s D ρ b A mL w0 t0 en lv st h n ls xs ws tys H locs) : va_D A ws := hR.2.2.2.2.2.2.1
theorem ex_Rl.hS (hR : ex_Rl s D ρ b A mL w0 t0 en lv st h n ls xs ws tys H locs) : va_S A s.heap H locs := hR.2.2.2.2.2.2.2.1
/-- the world goes on: cells stay, what is said of them is new -/
theorem ex_Rl.world (hR : ex_Rl s D ρ b A mL w0 t0 en lv st h n ls xs ws tys H locs) {ws' : va_W} {tys' : List (ClassId × FieldType)} {H' : Heap} {locs' : List Loc} {h' : ex_H} {n' : Nat} (hx : ex_xt ws ws') (ht : ∀ t ∈ tys, t ∈ tys') (hh : ex_hr ρ b tys' ws' h' n') (hK : va_K D vwCl tys' s) (hP : va_P D vwCl ws' H') (hD : va_D A ws') (hS : va_S A s.heap H' locs') : ex_Rl s D ρ b A mL w0 t0 en lv st h' n' ls xs ws' tys' H' locs' := by
  obtain ⟨⟨lw, a1, a2⟩, a3, a4, a5, a6, a7, a8, a9, a10, a11⟩ := hR
  exact ⟨⟨lw, a1, a2.mono hx⟩, a3, a4.mono hx, hh, hK, hP, hD, hS, a10.tr hx, fun t h => ht t (a11 t h)⟩
/-- a cell's new words -/
theorem ex_hr.put (hh : ex_hr ρ b tys ws h n) {k a : Nat} {ev ev' : va_E} (hk : ws[k]? = some (a, ev)) {cv : ex_C} (hc : ex_cr ρ b tys (ws.set k (a, ev')) cv ev') : ex_hr ρ b tys (ws.set k (a, ev')) (ex_put h k cv) n := by
  refine ⟨by rw [List.length_set]; exact hh.1, fun j cj hj => ?_⟩
  rcases ex_put_get hj with ⟨rfl, rfl⟩ | ⟨hne, hj⟩
  · exact ⟨a, ev', by rw [List.getElem?_set_self (List.getElem?_eq_some_iff.mp hk).1], hc⟩
  · obtain ⟨a', e', h1, h2⟩ := hh.2 j cj hj
    exact ⟨a', e', by rw [List.getElem?_set_ne (Ne.symm hne)]; exact h1, h2.mono (ex_xt.set hk) (fun _ h => h)⟩
theorem ex_hr.push (hh : ex_hr ρ b tys ws h n) {h' : ex_H} {cv : ex_C} (hp : ex_push h n cv = some h') {a : Nat} {ev : va_E} {tys' : List (ClassId × FieldType)} (ht : ∀ t ∈ tys, t ∈ tys') (hc : ex_cr ρ b tys' (ws ++ [(a, ev)]) cv ev) : ex_hr ρ b tys' (ws ++ [(a, ev)]) h' (n + 1) := by
  refine ⟨by rw [List.length_append, hh.1]; rfl, fun j cj hj => ?_⟩
  rcases ex_push_get hp hj with ⟨rfl, rfl⟩ | hj
  · exact ⟨a, ev, by rw [← hh.1, List.getElem?_append_right (Nat.le_refl _), Nat.sub_self]; rfl, hc⟩
  · obtain ⟨a', e', h1, h2⟩ := hh.2 j cj hj
    exact ⟨a', e', by rw [List.getElem?_append_left (List.getElem?_eq_some_iff.mp h1).1]; exact h1, h2.mono ex_xt.app ht⟩
/-- an object is where its number says -/
theorem ex_hr.obj (hh : ex_hr ρ b tys ws h n) {k : Nat} {oc : Nat × List ex_V} (hk : ex_get h k = some (.inl oc)) : ∃ (a : Nat) (vs : List Value), ws[k]? = some (a, .inr (oc.1, vs)) ∧ oc.2.length = vs.length ∧ ∀ (j : Nat) (v : ex_V), ex_nth oc.2 j = some v → ∃ x, vs[j]? = some x ∧ ex_vr ρ b ws v x := by
  obtain ⟨a, ev, h1, h2⟩ := hh.2 k _ hk
  rcases ev with w | w
  · exact h2.elim
  · obtain ⟨c1, c2, c3⟩ := h2
    obtain ⟨ci, vs⟩ := w
    dsimp only at c1 c2 c3
    subst c1
    exact ⟨a, vs, h1, c2, c3⟩
theorem ex_hr.arr (hh : ex_hr ρ b tys ws h n) {k t N : Nat} {ov : List (Nat × ex_V)} (hk : ex_get h k = some (.inr (t, N, ov))) : ∃ (a : Nat) (cA : ClassId) (ar : vp_A), ws[k]? = some (a, .inl (cA, ar)) ∧ (cA, ex_ty t) ∈ tys ∧ t ≤ 4 ∧ ar.1 = N ∧ ex_ak t ar ∧ ∀ j, j < N → ex_vr ρ b ws (ex_ov t ov j) (ex_ag ar j) := by
  obtain ⟨a, ev, h1, h2⟩ := hh.2 k _ hk
  rcases ev with w | w
  · exact ⟨a, w.1, w.2, h1, h2⟩
  · exact h2.elim
theorem ex_at {k : Nat} {a a' : Nat} {ev ev' : va_E} (h1 : ws[k]? = some (a, ev)) (h2 : ws[k]? = some (a', ev')) : a = a' := by
  rw [h1] at h2
  cases h2
  rfl
theorem ex_gf_ok {ix : Nat} {rc : vw_C} (hc : vwCl[q.2.2.2.1]? = some rc) (hk : q.2.2.2.2.1 < rc.2.2) (hl : Cond.fieldLink own ix (rc.2.1 q.2.2.2.2.1).1 (rc.2.1 q.2.2.2.2.1).2.1 (rc.2.1 q.2.2.2.2.1).2.2.1 ∈ ex_tb) (X : ex_X p R s m args meth c ρ b L A own nm cd mL d cap isl) (hlen : q.2.2.1 = 3) (hdg : decode cd q.1 = .ok (.getfield ix, 3))
    (hs : ex_gf q r en lv st h n k1 k2 = some o) (hN : ex_N p l e R s m args below meth c Q D ρ b A mL w0 t0 pr o) (hsub : ∀ x ∈ q :: r, x ∈ pr) (hR : ex_Rl s D ρ b A mL w0 t0 en lv st h n ls xs ws tys H locs) : W p l e R s m args below meth c H locs k1 k2 Q (F0 m q.1 ls xs) := by
  unfold ex_gf at hs
  split at hs
  · rename_i ob rest
    split at hs
    · rename_i ci fs hget
      split at hs
      · rename_i v hv
        obtain ⟨h1, h2⟩ := ex_bifs hs
        have h1 := ex_beq h1
        subst h1
        obtain ⟨x, xr, rfl, hvr, hr⟩ := ex_sr_cons hR.sr
        obtain ⟨a, ev, e1, rfl⟩ := hvr
        obtain ⟨a', vs, f1, f2, f3⟩ := hR.hr.obj hget
        have ea := ex_at e1 f1
        subst ea
        obtain ⟨y, g1, g2⟩ := f3 _ _ hv
        obtain ⟨x1, x2, x3, x4, x5, x6⟩ := X
        have W1 := ex_ft_ok h2 hN.g hsub (hR.stk (st' := v :: rest) (xs' := y :: xr) ⟨g2, hr⟩)
        rw [hlen] at W1
        exact va_get (C := rc.1) (T := rc.2.1) (N := rc.2.2) x1 x2 x5 (ex_cli hc).1 x4 hR.hK hR.hP ob f1 hc _ hk (x5 _ hl) (fun _ h9 => h9) g1 hdg W1
      · cases hs
    · cases hs
  · cases hs
/-- a field's new value is kept as it is -/
theorem ex_okf_ok {ty : Nat} {v : ex_V} {x : Value} {ft : FieldType} (he : ex_er ρ en) (hk : ex_okf en ty v = true) (hv : ex_vr ρ b ws v x) (hty : (ty = 0 ∧ ft = .int) ∨ (ty = 1 ∧ ((∃ C, ft = .object C) ∨ ∃ t, ft = .array t)) ∨ (ty = 2 ∧ ft = .boolean)) : narrow ft x = x ∧ fits ft x = true := by
  unfold ex_okf at hk
  rcases hty with ⟨rfl, rfl⟩ | ⟨rfl, hf⟩ | ⟨rfl, rfl⟩
  · obtain ⟨y, rfl⟩ := ex_vr_int hv hk
    exact ⟨rfl, rfl⟩
  · have hx : x = .null ∨ ∃ a, x = .ref a := by
      rcases v with v | (_ | k) | v
      · cases hk
      · exact Or.inl hv
      · obtain ⟨a, ev, -, rfl⟩ := hv
        exact Or.inr ⟨a, rfl⟩
      · cases hk
    rcases hf with ⟨C, rfl⟩ | ⟨t, rfl⟩ <;> rcases hx with rfl | ⟨a, rfl⟩ <;> exact ⟨rfl, rfl⟩
  · have hk : (match ex_cst en v with
      | some u => Nat.beq u 2147483648 || Nat.beq u 2147483649
      | none => false) = true := hk
    split at hk
    · rename_i u hu
      obtain ⟨y, rfl⟩ := ex_vr_int hv (ex_cst_isI hu)
      have e1 := ex_cst_ok he hu hv
      have hy : y = 0 ∨ y = 1 := by
        rcases Bool.or_eq_true _ _ |>.mp hk with h1 | h1
        · exact Or.inl (ex_u_inj (by rw [e1, ex_beq h1, ex_u_0]))
        · exact Or.inr (ex_u_inj (by rw [e1, ex_beq h1]; decide))
      rcases hy with rfl | rfl <;> exact ⟨rfl, by decide⟩
    · cases hk
/-- what a field's type is, by the executor's number -/
def ex_tk (ty : Nat) (d : String) : Bool := match parseFieldDescriptor d with
  | some .int => Nat.beq ty 0
  | some (.object _) => Nat.beq ty 1
  | some (.array _) => Nat.beq ty 1
  | some .boolean => Nat.beq ty 2
  | _ => false
theorem ex_tk_ok {ty : Nat} {dd : String} (hk : ex_tk ty dd = true) : ∃ ft, parseFieldDescriptor dd = some ft ∧ ((ty = 0 ∧ ft = .int) ∨ (ty = 1 ∧ ((∃ C, ft = .object C) ∨ ∃ t, ft = .array t)) ∨ (ty = 2 ∧ ft = .boolean)) := by
  unfold ex_tk at hk
  split at hk
  · rename_i hp
    exact ⟨_, hp, Or.inl ⟨ex_beq hk, rfl⟩⟩
  · rename_i C hp
    exact ⟨_, hp, Or.inr (Or.inl ⟨ex_beq hk, Or.inl ⟨C, rfl⟩⟩)⟩
  · rename_i C hp
    exact ⟨_, hp, Or.inr (Or.inl ⟨ex_beq hk, Or.inr ⟨C, rfl⟩⟩)⟩
  · rename_i hp
    exact ⟨_, hp, Or.inr (Or.inr ⟨ex_beq hk, rfl⟩)⟩
  · cases hk
theorem ex_pf_ok {ix : Nat} {rc : vw_C} (hc : vwCl[q.2.2.2.1]? = some rc) (hk : q.2.2.2.2.1 < rc.2.2) (hl : Cond.fieldLink own ix (rc.2.1 q.2.2.2.2.1).1 (rc.2.1 q.2.2.2.2.1).2.1 (rc.2.1 q.2.2.2.2.1).2.2.1 ∈ ex_tb) (hfin : (rc.2.1 q.2.2.2.2.1).2.2.2 = false ∨ (nm = "<init>" ∧ (rc.2.1 q.2.2.2.2.1).1 = own)) (htk : ex_tk q.2.2.2.2.2.1 (rc.2.1 q.2.2.2.2.1).2.2.1 = true) (X : ex_X p R s m args meth c ρ b L A own nm cd mL d cap isl) (hlen : q.2.2.1 = 3) (hdg : decode cd q.1 = .ok (.putfield ix, 3))
    (hs : ex_pf q r en lv st h n k1 k2 = some o) (hN : ex_N p l e R s m args below meth c Q D ρ b A mL w0 t0 pr o) (hsub : ∀ x ∈ q :: r, x ∈ pr) (hR : ex_Rl s D ρ b A mL w0 t0 en lv st h n ls xs ws tys H locs) : W p l e R s m args below meth c H locs k1 k2 Q (F0 m q.1 ls xs) := by
  unfold ex_pf at hs
  split at hs
  · rename_i v ob rest
    split at hs
    · rename_i ci fs hget
      split at hs
      · rename_i v0 hv0
        obtain ⟨h1, h2⟩ := ex_bifs hs
        obtain ⟨h1, h3⟩ := ex_and h1
        have h1 := ex_beq h1
        subst h1
        obtain ⟨x, xr, rfl, hvr, hr⟩ := ex_sr_cons hR.sr
        obtain ⟨x', xr', rfl, hvr', hr'⟩ := ex_sr_cons hr
        obtain ⟨a, ev, e1, rfl⟩ := hvr'
        obtain ⟨a', vs, f1, f2, f3⟩ := hR.hr.obj hget
        have ea := ex_at e1 f1
        subst ea
        obtain ⟨y, g1, g2⟩ := f3 _ _ hv0
        obtain ⟨ft, t1, t2⟩ := ex_tk_ok htk
        obtain ⟨n1, n2⟩ := ex_okf_ok hR.er h3 hvr t2
        have hlt : q.2.2.2.2.1 < vs.length := (List.getElem?_eq_some_iff.mp g1).1
        obtain ⟨cw, ⟨ty0, hty0⟩, hnm⟩ := ex_cli hc
        obtain ⟨x1, x2, x3, x4, x5, x6, x7, x8, x9, x10, x11⟩ := X
        have hx := ex_xt.set (e' := .inr (q.2.2.2.1, vs.set q.2.2.2.2.1 x)) f1
        have hcr : ex_cr ρ b tys (ws.set ob (a, .inr (q.2.2.2.1, vs.set q.2.2.2.2.1 x))) (.inl (q.2.2.2.1, ex_set fs q.2.2.2.2.1 v)) (.inr (q.2.2.2.1, vs.set q.2.2.2.2.1 x)) := by
          refine ⟨rfl, by show (ex_set fs q.2.2.2.2.1 v).length = (vs.set q.2.2.2.2.1 x).length; rw [ex_set_eq, List.length_set, List.length_set]; exact f2, fun j w hj0 => ?_⟩
          have hj : ex_nth (ex_set fs q.2.2.2.2.1 v) j = some w := hj0
          clear hj0
          show ∃ z, (vs.set q.2.2.2.2.1 x)[j]? = some z ∧ _
          rw [ex_nth_get, ex_set_eq, List.getElem?_set] at hj
          split at hj
          · rename_i hij
            subst hij
            split at hj
            · injection hj with hj
              subst hj
              exact ⟨x, by rw [List.getElem?_set_self hlt], hvr.mono hx⟩
            · cases hj
          · rename_i hij
            obtain ⟨z, z1, z2⟩ := f3 j w (by rw [ex_nth_get]; exact hj)
            exact ⟨z, by rw [List.getElem?_set_ne hij]; exact z1, z2.mono hx⟩
        have W1 : ∀ (H1 : Heap) (locs1 : List Loc), va_P D vwCl (ws.set ob (a, .inr (q.2.2.2.1, vs.set q.2.2.2.2.1 x))) H1 → va_D A (ws.set ob (a, .inr (q.2.2.2.1, vs.set q.2.2.2.2.1 x))) → va_S A s.heap H1 locs1 → W p l e R s m args below meth c H1 locs1 k1 k2 Q (F0 m (q.1 + 3) ls xr') := fun H1 locs1 hP hD hS => by
          have W2 := ex_ft_ok h2 hN.g hsub ((hR.stk hr').world hx (fun _ h => h) (hR.hr.put f1 hcr) hR.hK hP hD hS)
          rw [hlen] at W2
          exact W2
        rcases hfin with hfin | ⟨hi, hown⟩
        · exact va_put (C := rc.1) (T := rc.2.1) (N := rc.2.2) x1 x2 x5 cw ty0 hty0 hnm x4 hR.hK hR.hP hR.hD hR.hS ob f1 hc _ hk (x5 _ hl) (fun _ h9 => h9) hfin t1 n1 n2 hlt hdg W1
        · cases hfb : (rc.2.1 q.2.2.2.2.1).2.2.2 with
          | false => exact va_put (C := rc.1) (T := rc.2.1) (N := rc.2.2) x1 x2 x5 cw ty0 hty0 hnm x4 hR.hK hR.hP hR.hD hR.hS ob f1 hc _ hk (x5 _ hl) (fun _ h9 => h9) hfb t1 n1 n2 hlt hdg W1
          | true => exact va_putF (C := rc.1) (T := rc.2.1) (N := rc.2.2) x1 x2 x5 cw ty0 hty0 hnm x4 hR.hK hR.hP hR.hD hR.hS ob f1 hc _ hk (x5 _ hl) (fun _ h9 => h9) hfb (x10.trans hi) hown t1 n1 n2 hlt hdg W1
      · cases hs
    · cases hs
  · cases hs
theorem ex_nw_ok {ix : Nat} {rc : vw_C} {df : Nat → List ex_V} (hdf : (df q.2.2.2.1).length = rc.2.2 ∧ ∀ (ty0 : Nat → FieldType), (∀ k, k < rc.2.2 → parseFieldDescriptor (rc.2.1 k).2.2.1 = some (ty0 k)) → ∃ fs : List Value, fs.length = rc.2.2 ∧ (∀ j, j < rc.2.2 → defaultValue (ty0 j) = vp_V fs j) ∧ ∀ (j : Nat) (v : ex_V), ex_nth (df q.2.2.2.1) j = some v → ∀ (ρ : Nat → Int32) (b : Nat) (ws : va_W), ∃ x, fs[j]? = some x ∧ ex_vr ρ b ws v x) (hc : vwCl[q.2.2.2.1]? = some rc) (hnn : q.2.2.2.2.1 = rc.2.2) (hl : Cond.classLink own ix rc.1 ∈ ex_tb) (hin : Cond.instantiable rc.1 rc.2.2 ∈ ex_tb) (hini : Cond.initialized rc.1 ∈ ex_tb) (X : ex_X p R s m args meth c ρ b L A own nm cd mL d cap isl) (hlen : q.2.2.1 = 3) (hdg : decode cd q.1 = .ok (.new ix, 3))
    (hs : ex_nw cap df q r en lv st h n k1 k2 = some o) (hN : ex_N p l e R s m args below meth c Q D ρ b A mL w0 t0 pr o) (hsub : ∀ x ∈ q :: r, x ∈ pr) (hR : ex_Rl s D ρ b A mL w0 t0 en lv st h n ls xs ws tys H locs) : W p l e R s m args below meth c H locs k1 k2 Q (F0 m q.1 ls xs) := by
  unfold ex_nw at hs
  split at hs
  · rename_i h' hp
    obtain ⟨h1, h2⟩ := ex_bifs hs
    obtain ⟨h1, h3⟩ := ex_and h1
    have h1 := ex_ble h1
    have h3 := ex_ble h3
    obtain ⟨cw, ⟨ty0, hty0⟩, hnm⟩ := ex_cli hc
    obtain ⟨x1, x2, x3, x4, x5, x6, x7, x8, x9, x10, x11, x12⟩ := X
    obtain ⟨d1, d2⟩ := hdf
    obtain ⟨fs, d3, d4, d5⟩ := d2 ty0 hty0
    refine va_new (ci := q.2.2.2.1) (fs := fs) (C := rc.1) (T := rc.2.1) (N := rc.2.2) x1 x2 x5 cw ty0 hty0 x4 (x5 _ hl) (x5 _ hin) (x5 _ hini) hR.hK hR.hP hR.hD hR.hS x6 hc d4 (Nat.le_trans h1 x11.1) (Nat.le_trans (by rw [hnn] at h3; exact h3) x11.2) hdg (fun a H1 hP hD hS => ?_)
    have hcr : ex_cr ρ b tys (ws ++ [(a, .inr (q.2.2.2.1, fs))]) (.inl (q.2.2.2.1, df q.2.2.2.1)) (.inr (q.2.2.2.1, fs)) := ⟨rfl, d1.trans d3.symm, fun j v hj => d5 j v hj _ _ _⟩
    have hv : ex_vr ρ b (ws ++ [(a, .inr (q.2.2.2.1, fs))]) (ex_a (some n)) (.ref a) := ⟨a, .inr (q.2.2.2.1, fs), by rw [← hR.hr.1, List.getElem?_append_right (Nat.le_refl _), Nat.sub_self]; rfl, rfl⟩
    have W2 := ex_ft_ok h2 hN.g hsub ((hR.world ex_xt.app (fun _ h => h) (hR.hr.push hp (fun _ h => h) hcr) hR.hK hP hD hS).push hv)
    rw [hlen, hnn] at W2
    exact W2
  · cases hs
theorem ex_ix_ok {i : ex_V} {N j : Nat} (he : ex_er ρ en) (hi : ex_ix en i N = some j) {y : Int32} (hv : ex_vr ρ b ws i (.int y)) : j < N ∧ ex_u y = j + 2147483648 ∧ y.toNatClampNeg = j ∧ ¬ y < 0 := by
  unfold ex_ix at hi
  split at hi
  · rename_i u hu
    obtain ⟨h1, h2⟩ := ex_bifs hi
    injection h2 with h2
    obtain ⟨h1, h3⟩ := ex_and h1
    have h1 := ex_ble h1
    have h3 := ex_blt h3
    have e1 := ex_cst_ok he hu hv
    have g1 : 2147483648 ≤ ex_u y := by omega
    exact ⟨by omega, by omega, by rw [ex_u_cl g1, e1]; exact h2, ex_u_nneg g1⟩
  · cases hi
theorem ex_vpin {y : Int32} {N j : Nat} (h1 : j < N) (h2 : y.toNatClampNeg = j) (h3 : ¬ y < 0) : vp_in y N := fun hh => hh.elim h3 (fun q => by omega)
theorem ex_ty_in {t : Nat} {cA : ClassId} (h : (cA, ex_ty t) ∈ tys) : ∃ k : Nat, tys[k]? = some (cA, ex_ty t) := List.getElem?_of_mem h
theorem ex_na_ok {at_ : ArrayType} (ht : newarray.typeOf at_ = ex_ty q.2.2.2.1 ∧ q.2.2.2.1 ≤ 3) (hl : Cond.arrayClass (ex_ty q.2.2.2.1) ∈ ex_tb) (X : ex_X p R s m args meth c ρ b L A own nm cd mL d cap isl) (hlen : q.2.2.1 = 2) (hdg : decode cd q.1 = .ok (.newarray at_, 2))
    (hs : ex_na cap q r en lv st h n k1 k2 = some o) (hN : ex_N p l e R s m args below meth c Q D ρ b A mL w0 t0 pr o) (hsub : ∀ x ∈ q :: r, x ∈ pr) (hR : ex_Rl s D ρ b A mL w0 t0 en lv st h n ls xs ws tys H locs) : W p l e R s m args below meth c H locs k1 k2 Q (F0 m q.1 ls xs) := by
  unfold ex_na at hs
  split at hs
  · rename_i i rest
    split at hs
    · rename_i N hix
      split at hs
      · rename_i h' hp
        obtain ⟨h1, h2⟩ := ex_bifs hs
        obtain ⟨h1, h3⟩ := ex_and h1
        obtain ⟨hI, h1⟩ := ex_and h1
        have h1 := ex_ble h1
        have h3 := ex_ble h3
        obtain ⟨x, xr, rfl, hvr, hr⟩ := ex_sr_cons hR.sr
        obtain ⟨y, rfl⟩ := ex_vr_int hvr hI
        obtain ⟨i1, i2, i3, i4⟩ := ex_ix_ok hR.er hix hvr
        obtain ⟨x1, x2, x3, x4, x5, x6, x7, x8, x9, x10, x11, x12⟩ := X
        obtain ⟨ht, ht3⟩ := ht
        have hbig : N * componentBytes (ex_ty q.2.2.2.1) ≤ 536870912 := by
          have : componentBytes (ex_ty q.2.2.2.1) ≤ 8 := by
            rcases (show q.2.2.2.1 = 0 ∨ q.2.2.2.1 = 1 ∨ q.2.2.2.1 = 2 ∨ q.2.2.2.1 = 3 by omega) with z | z | z | z <;> rw [z] <;> decide
          have := Nat.mul_le_mul (Nat.le_of_lt i1) this
          omega
        obtain ⟨a0, ha1, ha2, ha3, ha4⟩ : ∃ a0 : vp_A, (∀ cA : ClassId, vp_cell cA a0 = arrV cA N (fun _ => defaultValue (ex_ty q.2.2.2.1))) ∧ a0.1 = N ∧ ex_ak q.2.2.2.1 a0 ∧ ∀ (j : Nat) (ρ : Nat → Int32) (b : Nat) (ws : va_W), ex_vr ρ b ws (ex_ov q.2.2.2.1 [] j) (ex_ag a0 j) := by
          rcases (show q.2.2.2.1 = 0 ∨ q.2.2.2.1 = 1 ∨ q.2.2.2.1 = 2 ∨ q.2.2.2.1 = 3 by omega) with z | z | z | z <;> rw [z]
          · exact ⟨(N, .inl (fun _ => 0)), fun cA => rfl, rfl, ⟨_, rfl⟩, fun j ρ b ws => ⟨0, rfl, ex_u_0⟩⟩
          · exact ⟨(N, .inl (fun _ => 0)), fun cA => rfl, rfl, ⟨_, rfl⟩, fun j ρ b ws => ⟨0, rfl, ex_u_0⟩⟩
          · exact ⟨(N, .inr (.inl (fun _ => 0))), fun cA => rfl, rfl, ⟨_, rfl⟩, fun j ρ b ws => rfl⟩
          · exact ⟨(N, .inl (fun _ => 0)), fun cA => rfl, rfl, ⟨_, rfl⟩, fun j ρ b ws => ⟨0, rfl, ex_u_0⟩⟩
        refine va_newa (a0 := a0) x1 x2 (by rw [ht]; exact x5 _ hl) ht hR.hK hR.hP hR.hD hR.hS x6 ha1 i4 i3 hbig (Nat.le_trans h1 x11.1) (Nat.le_trans h3 x11.2) hdg (fun a cA H1 hK hP hD hS => ?_)
        have hcr : ex_cr ρ b (tys ++ [(cA, ex_ty q.2.2.2.1)]) (ws ++ [(a, .inl (cA, a0))]) (.inr (q.2.2.2.1, N, [])) (.inl (cA, a0)) := ⟨List.mem_append_right _ (List.mem_singleton.mpr rfl), (show q.2.2.2.1 ≤ 4 by omega), ha2, ha3, fun j hj => ha4 j _ _ _⟩
        have hv : ex_vr ρ b (ws ++ [(a, .inl (cA, a0))]) (ex_a (some n)) (.ref a) := ⟨a, .inl (cA, a0), by rw [← hR.hr.1, List.getElem?_append_right (Nat.le_refl _), Nat.sub_self]; rfl, rfl⟩
        have W2 := ex_ft_ok h2 hN.g hsub (((hR.stk hr).world ex_xt.app (fun _ h => List.mem_append_left _ h) (hR.hr.push hp (fun _ h => List.mem_append_left _ h) hcr) hK hP hD hS).push hv)
        rw [hlen] at W2
        exact W2
      · cases hs
    · cases hs
  · cases hs
theorem ex_nq_ok {ix : Nat} (ht : q.2.2.2.1 = 4) (hl : Cond.classLink own ix "HatchLights$Scene" ∈ ex_tb) (X : ex_X p R s m args meth c ρ b L A own nm cd mL d cap isl) (hlen : q.2.2.1 = 3) (hdg : decode cd q.1 = .ok (.anewarray ix, 3))
    (hs : ex_na cap q r en lv st h n k1 k2 = some o) (hN : ex_N p l e R s m args below meth c Q D ρ b A mL w0 t0 pr o) (hsub : ∀ x ∈ q :: r, x ∈ pr) (hR : ex_Rl s D ρ b A mL w0 t0 en lv st h n ls xs ws tys H locs) : W p l e R s m args below meth c H locs k1 k2 Q (F0 m q.1 ls xs) := by
  unfold ex_na at hs
  split at hs
  · rename_i i rest
    split at hs
    · rename_i N hix
      split at hs
      · rename_i h' hp
        obtain ⟨h1, h2⟩ := ex_bifs hs
        obtain ⟨h1, h3⟩ := ex_and h1
        obtain ⟨hI, h1⟩ := ex_and h1
        have h1 := ex_ble h1
        have h3 := ex_ble h3
        obtain ⟨x, xr, rfl, hvr, hr⟩ := ex_sr_cons hR.sr
        obtain ⟨y, rfl⟩ := ex_vr_int hvr hI
        obtain ⟨i1, i2, i3, i4⟩ := ex_ix_ok hR.er hix hvr
        obtain ⟨x1, x2, x3, x4, x5, x6, x7, x8, x9, x10, x11, x12⟩ := X
        refine va_newq x1 x2 x4 (x5 _ hl) x8 hR.hK hR.hP hR.hD hR.hS x6 i4 i3 (by omega) (Nat.le_trans h1 x11.1) (Nat.le_trans h3 x11.2) hdg (fun a cA H1 hK hP hD hS => ?_)
        have hcr : ex_cr ρ b (tys ++ [(cA, .object "HatchLights$Scene")]) (ws ++ [(a, .inl (cA, N, .inr (.inr (.inr (.inr (fun _ => none))))))]) (.inr (q.2.2.2.1, N, [])) (.inl (cA, N, .inr (.inr (.inr (.inr (fun _ => none)))))) := by
          rw [ht]
          exact ⟨List.mem_append_right _ (List.mem_singleton.mpr rfl), Nat.le_refl 4, rfl, ⟨_, rfl⟩, fun j hj => rfl⟩
        have hv : ex_vr ρ b (ws ++ [(a, .inl (cA, N, .inr (.inr (.inr (.inr (fun _ => none))))))]) (ex_a (some n)) (.ref a) := ⟨a, _, by rw [← hR.hr.1, List.getElem?_append_right (Nat.le_refl _), Nat.sub_self]; rfl, rfl⟩
        have W2 := ex_ft_ok h2 hN.g hsub (((hR.stk hr).world ex_xt.app (fun _ h => List.mem_append_left _ h) (hR.hr.push hp (fun _ h => List.mem_append_left _ h) hcr) hK hP hD hS).push hv)
        rw [hlen] at W2
        exact W2
      · cases hs
    · cases hs
  · cases hs
end EXH
