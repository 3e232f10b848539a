/-! loops: each head has a form, and something falls from head to head -/
abbrev ty_Tp : Type := Nat × ty_E × ty_L × ty_K × List ty_t
def ty_lx : List Nat → List Nat → Prop
  | a :: s, b :: t => a < b ∨ (a ≤ b ∧ ty_lx s t)
  | _, _ => False
theorem ty_lx_nil {l : List Nat} (h : ty_lx l []) : False := by
  cases l with
  | nil => exact h
  | cons a t => exact h
theorem ty_lx_ind : ∀ (N : Nat) (P : List Nat → Prop), (∀ l, l.length ≤ N → (∀ l', l'.length ≤ N → ty_lx l' l → P l') → P l) → ∀ l, l.length ≤ N → P l
  | 0, P, step, l, hl => by
    cases l with
    | nil => exact step [] (Nat.le_refl _) (fun l' _ h => (ty_lx_nil h).elim)
    | cons a t => exact absurd hl (by rw [List.length_cons]; omega)
  | N + 1, P, step, l, hl => by
    cases l with
    | nil => exact step [] hl (fun l' _ h => (ty_lx_nil h).elim)
    | cons a t =>
      have key : ∀ (n a : Nat), a < n → ∀ t, t.length ≤ N → P (a :: t) := by
        intro n
        induction n with
        | zero => exact fun a h => by omega
        | succ n ih =>
          intro a ha
          refine ty_lx_ind N (fun t => P (a :: t)) (fun t ht hi => step (a :: t) (by rw [List.length_cons]; omega) (fun l' hl' hx => ?_))
          cases l' with
          | nil => exact hx.elim
          | cons a' t' =>
            rw [List.length_cons] at hl'
            rcases hx with hx | ⟨hx, hx'⟩
            · exact ih a' (by omega) t' (by omega)
            · by_cases e : a' = a
              · subst e
                exact hi t' (by omega) hx'
              · exact ih a' (by omega) t' (by omega)
      exact key (a + 1) a (Nat.lt_succ_self _) t (by rw [List.length_cons] at hl; omega)
noncomputable def ty_id (n : Nat) : ty_H := ex_map (fun i => (i, ty_s i)) (ex_range n 0)
noncomputable def ty_isS (i : Nat) (t : ty_t) : Bool := match t with
  | (c, [(j, a)]) => ty_0 c && (Nat.beq i j && ty_0 (a - 1))
  | _ => false
noncomputable def ty_idc (n : Nat) (th : ty_H) : Bool := ty_every (fun i => ty_isS i (ty_tm th i)) (ex_range n 0)
theorem ty_isS_ok {i : Nat} {t : ty_t} (h : ty_isS i t = true) (ρ : Nat → Int) : ty_ev ρ t = ρ i := by
  unfold ty_isS at h
  split at h
  · rename_i c j a
    obtain ⟨h1, h2⟩ := ex_and h
    obtain ⟨h2, h3⟩ := ex_and h2
    have h1 := ty_0_t h1
    have h2 := ex_beq h2
    have h3 := ty_0_t h3
    subst h2
    show c + (a * ρ i + 0) = ρ i
    rw [h1, show a = 1 by omega]
    omega
  · cases h
theorem ty_idc_ok {n : Nat} {th : ty_H} (h : ty_idc n th = true) (ρ : Nat → Int) {i : Nat} (hi : i < n) : ty_ev ρ (ty_tm th i) = ρ i := ty_isS_ok (ty_every_t h i ((ex_range_mem _ _ _).mpr ⟨Nat.zero_le _, by omega⟩)) ρ
noncomputable def ty_bL (lv : ty_L) (l : ty_L) : ty_H → ty_H := List.rec (motive := fun _ => ty_H → ty_H) (fun th => th) (fun q _ ih th => match ex_lk lv q.1 with
  | some v => ih (ty_bw th q.2 v)
  | none => ih th) l
noncomputable def ty_lms (e : ty_E) (th : ty_H) (n : Nat) (lv : ty_L) (l : ty_L) : Bool := ty_every (fun q => match ex_lk lv q.1 with
  | some v => ty_vm e th n q.2 v
  | none => false) l
noncomputable def ty_lxb (e : ty_E) (th : ty_H) (n : Nat) (o : List ty_t) : List ty_t → Bool := List.rec (motive := fun _ => List ty_t → Bool) (fun _ => false) (fun t _ ih ns => match ns with
  | [] => false
  | u :: us => ty_scb n u && (ty_ent e (ty_pl (ty_add (ty_sb th u) t (-1)) 1) || (ty_ent e (ty_add (ty_sb th u) t (-1)) && ih us))) o
noncomputable def ty_nil {α : Type} (l : List α) : Bool := match l with
  | [] => true
  | _ :: _ => false
noncomputable def ty_dec (e : ty_E) (th : ty_H) (n : Nat) (old : Option (List ty_t)) (w : List ty_t) : Bool := match old with
  | none => true
  | some o => ty_lxb e th n o w
noncomputable def ty_mt2 (n0 : Nat) (old : Option (List ty_t)) (lv : ty_L) (T : ty_Tp) (e : ty_E) (K : ty_K) (th : ty_H) : Bool := ty_idc n0 th && (ty_insE e th T.2.1 && (ty_lms e th T.2.1.1 lv T.2.2.1 && (ty_kms e th T.2.1.1 K T.2.2.2.1 && ty_dec e th T.2.1.1 old T.2.2.2.2)))
noncomputable def ty_mt1 (n0 : Nat) (old : Option (List ty_t)) (lv : ty_L) (T : ty_Tp) (x : ty_E × ty_K) : Bool := ty_mt2 n0 old lv T x.1 x.2 (ty_bK x.1 x.2 T.2.2.2.1 (ty_bL lv T.2.2.1 (ty_id n0)))
noncomputable def ty_mtT (n0 : Nat) (old : Option (List ty_t)) (x : ty_E × ty_S) (T : ty_Tp) : Bool := match x with
  | (e, (q :: _, lv, st, K)) => Nat.beq q.1 T.1 && (ty_nil st && ty_mt1 n0 old lv T (ty_sat e K))
  | _ => false
noncomputable def ty_mp2 (n0 : Nat) (po : ty_A) (rs : List ty_V) (e : ty_E) (K : ty_K) (th : ty_H) : Bool := ty_idc n0 th && (Nat.ble n0 po.1.1 && (ty_insE e th po.1 && (ty_vms e th po.1.1 po.2.1 rs && ty_kms e th po.1.1 K po.2.2)))
noncomputable def ty_mp1 (n0 : Nat) (po : ty_A) (rs : List ty_V) (x : ty_E × ty_K) : Bool := ty_mp2 n0 po rs x.1 x.2 (ty_bK x.1 x.2 po.2.2 (ty_bvs po.2.1 rs (ty_id n0)))
noncomputable def ty_mpP (z n0 : Nat) (ps : List ty_A) (x : ty_E × ty_S) : Bool := match ty_ret z x with
  | some a => ex_any (fun po => ty_mp1 n0 po a.2.1 (ty_sat a.1 a.2.2)) ps
  | none => false
noncomputable def ty_wfT (n0 : Nat) (T : ty_Tp) : Bool := Nat.ble n0 T.2.1.1 && (Nat.ble (ex_len T.2.2.2.2) 12 && ty_every (fun t => ty_scb T.2.1.1 t && ty_le (-4611686018427387903) (ty_lo T.2.1 t)) T.2.2.2.2)
noncomputable def ty_outs (good : ty_E × ty_S → Bool) (n0 : Nat) (old : Option (List ty_t)) (ts : List ty_Tp) (o : Option (List (ty_E × ty_S))) : Bool := match o with
  | some l => ty_every (fun x => good x || ex_any (ty_mtT n0 old x) ts) l
  | none => false
noncomputable def ty_okT (mt : Nat → Option ex_M) (cn : List ty_Con) (f : Nat) (good : ty_E × ty_S → Bool) (n0 d : Nat) (isl : Bool) (M : ex_M) (ms : ty_M) (ts : List ty_Tp) (T : ty_Tp) : Bool := ty_wfT n0 T && ty_outs good n0 (some T.2.2.2.2) ts (ty_run mt cn f true (ex_map (fun T => T.1) ts) d isl M ms T.2.1 (ex_jp M.1 T.1, T.2.2.1, [], T.2.2.2.1))
noncomputable def ty_okE (mt : Nat → Option ex_M) (cn : List ty_Con) (f : Nat) (good : ty_E × ty_S → Bool) (n0 d : Nat) (isl : Bool) (M : ex_M) (ms : ty_M) (ts : List ty_Tp) (e : ty_E) (S : ty_S) : Bool := ty_outs good n0 none ts (ty_run mt cn f false (ex_map (fun T => T.1) ts) d isl M ms e S)
section TYE
variable {p : Program} {l : Launch} {en : Env} {R : Room} {s : State} {m : MethodId} {args : Array Value} {below : List Frame} {meth : Method} {c : Code} {k1 k2 : Nat} {Q : State → Prop} {D : va_G} {b : Nat} {sa : Nat → Nat} {A : Nat → Prop} {mL nr : Nat} {ρ0 ρ : Nat → Int} {w0 : va_W} {tys : List (ClassId × FieldType)} {ms : ty_M} {pr : List ex_P}
variable {e : ty_E} {lv : ty_L} {st : List ty_V} {K : ty_K} {ls : Array Slot} {xs : List Value} {ws : va_W} {H : Heap} {locs : List Loc} {q : ex_P} {r : List ex_P} {o : List (ty_E × ty_S)}
theorem ty_Rl.re (hR : ty_Rl s D b sa A mL nr w0 tys ms ρ e lv st K ls xs ws H locs) {nr' : Nat} (hn : nr' ≤ e.1) : ty_Rl s D b sa A mL nr' w0 tys ms ρ e lv st K ls xs ws H locs := by
  obtain ⟨h1, h2, h3, h4, h5, h6, h7, h8⟩ := hR
  exact ⟨h1, h2, h3, h4, h5, h6, hn, h8⟩
theorem ty_lms_ok {th : ty_H} {n : Nat} {σ : Nat → Int} (he : ty_er ρ e) (h : ty_tq n th e.1 ρ σ) (hl : ∃ lw, lv_has ls mL lw ∧ ty_lr b sa e.1 ρ ws lv lw) : ∀ {l : ty_L}, ty_lms e th n lv l = true → ∃ lw, lv_has ls mL lw ∧ ty_lr b sa n σ ws l lw
  | [], _ => ⟨[], ⟨hl.choose_spec.1.1, hl.choose_spec.1.2.1, fun q hq => by cases hq⟩, trivial⟩
  | q :: l, hm => by
    obtain ⟨h1, h2⟩ := ex_and (show ((match ex_lk lv q.1 with
      | some v => ty_vm e th n q.2 v
      | none => false) && ty_lms e th n lv l) = true from hm)
    obtain ⟨lw', a1, a2⟩ := ty_lms_ok he h hl h2
    obtain ⟨lw, b1, b2⟩ := hl
    split at h1
    · rename_i v hv
      obtain ⟨k, x, c1, c2⟩ := ty_lr_lk b2 hv
      refine ⟨(q.1, x) :: lw', ⟨a1.1, a1.2.1, fun y hy => ?_⟩, ⟨rfl, ty_vm_ok he h h1 c2⟩, a2⟩
      rcases List.mem_cons.mp hy with rfl | hy
      · exact lv_at b1 k c1
      · exact a1.2.2 y hy
    · cases h1
theorem ty_lxb_ok {th : ty_H} {n m0 : Nat} {σ ρ1 : Nat → Int} (he : ty_er ρ e) (h : ty_tq n th e.1 ρ σ) (hag : ty_ag m0 ρ1 ρ) : ∀ {o w : List ty_t}, (∀ t ∈ o, ty_sc m0 t ∧ -4611686018427387903 ≤ ty_ev ρ1 t) → ty_lxb e th n o w = true → ty_lx (w.map (fun t => (ty_ev σ t + 4611686018427387904).toNat)) (o.map (fun t => (ty_ev ρ1 t + 4611686018427387904).toNat))
  | [], _, _, hm => by cases (show false = true from hm)
  | _ :: _, [], _, hm => by cases (show false = true from hm)
  | t :: o, u :: w, ho, hm => by
    obtain ⟨h1, h2⟩ := ex_and (show (ty_scb n u && (ty_ent e (ty_pl (ty_add (ty_sb th u) t (-1)) 1) || (ty_ent e (ty_add (ty_sb th u) t (-1)) && ty_lxb e th n o w))) = true from hm)
    obtain ⟨k1, k2⟩ := ho t List.mem_cons_self
    have e1 : ty_ev ρ t = ty_ev ρ1 t := ty_ev_ag hag k1
    have e2 := (ty_sb_ok h (ty_scb_t h1)).2
    rcases Bool.or_eq_true _ _ |>.mp h2 with h2 | h2
    · have h2 := ty_ent_ok he h2
      rw [ty_pl_ev, ty_sub_ev, e1, e2] at h2
      exact Or.inl (by show (ty_ev σ u + 4611686018427387904).toNat < (ty_ev ρ1 t + 4611686018427387904).toNat; omega)
    · obtain ⟨h2, h3⟩ := ex_and h2
      have h2 := ty_ent_ok he h2
      rw [ty_sub_ev, e1, e2] at h2
      exact Or.inr ⟨by show (ty_ev σ u + 4611686018427387904).toNat ≤ (ty_ev ρ1 t + 4611686018427387904).toNat; omega, ty_lxb_ok he h hag (fun z hz => ho z (List.mem_cons_of_mem _ hz)) h3⟩
variable {σ : Nat → Int32} {L d : Nat} {own nm : String} {cd : ByteArray} {cap : Nat × Nat} {isl : Bool} {mi : Nat → Option ex_I}
/-- a state at a head is that head's -/
theorem ty_mtT_ok {n0 : Nat} {old : Option (List ty_t)} {T : ty_Tp} {ρc : Nat → Int} {pc : Nat} {S : ty_S} (hm : ty_mtT n0 old (e, S) T = true) (hn : n0 ≤ T.2.1.1) (hc : ty_ag n0 ρc ρ) (hh : ∃ q r, S.1 = q :: r ∧ q.1 = pc) (hR : ty_Rl s D b sa A mL nr w0 tys ms ρ e S.2.1 S.2.2.1 S.2.2.2 ls xs ws H locs) :
    pc = T.1 ∧ xs = [] ∧ ∃ ρ', ty_ag n0 ρc ρ' ∧ ty_Rl s D b sa A mL n0 w0 tys ms ρ' T.2.1 T.2.2.1 [] T.2.2.2.1 ls [] ws H locs ∧ ∀ o, old = some o → ∀ (m0 : Nat) (ρ1 : Nat → Int), ty_ag m0 ρ1 ρ → (∀ t ∈ o, ty_sc m0 t ∧ -4611686018427387903 ≤ ty_ev ρ1 t) → ty_lx (T.2.2.2.2.map (fun t => (ty_ev ρ' t + 4611686018427387904).toNat)) (o.map (fun t => (ty_ev ρ1 t + 4611686018427387904).toNat)) := by
  obtain ⟨sx, lv, st, K⟩ := S
  obtain ⟨q, r, e0, e1⟩ := hh
  have e0 : sx = q :: r := e0
  subst e0
  obtain ⟨h1, hm⟩ := ex_and (show (Nat.beq q.1 T.1 && (ty_nil st && ty_mt1 n0 old lv T (ty_sat e K))) = true from hm)
  obtain ⟨h2, hm⟩ := ex_and hm
  obtain ⟨s1, s2, s3⟩ := ty_sat_ok hR.th hR.er hR.Kr
  obtain ⟨g1, hm⟩ := ex_and hm
  obtain ⟨g2, hm⟩ := ex_and hm
  obtain ⟨g3, hm⟩ := ex_and hm
  obtain ⟨g4, g5⟩ := ex_and hm
  cases st with
  | cons a t => cases h2
  | nil =>
    have hxs := ty_sr_nil hR.sr
    obtain ⟨t1, t2⟩ := ty_insE_ok s1 g2
    refine ⟨e1.symm.trans (ex_beq h1), hxs, _, fun i hi => ?_, ⟨?_, t2, trivial, ty_kms_ok s1 t1 (by rw [s2]; exact s3) g4, hR.th, hR.fr, hn, hR.hK, hR.hP, hR.hD, hR.hS, hR.xt⟩, fun o ho m0 ρ1 ha1 hw => ?_⟩
    · have := (t1 i (by omega)).2
      rw [ty_idc_ok g1 ρ hi] at this
      exact (hc i hi).trans this
    · exact ty_lms_ok s1 t1 (by rw [s2]; exact hR.1) g3
    · subst ho
      exact ty_lxb_ok s1 t1 ha1 hw g5
set_option maxHeartbeats 4000000 in
theorem ty_loop {mt : Nat → Option ex_M} {cn : List ty_Con} {f : Nat} (hs : ty_Snd mt mi cn l f) {M : ex_M} {ret : Option FieldType} (hPO : ty_PO mi own nm cd M.2.2.1 ret M.1) (X : ex_X p R s m args meth c σ b L A own nm cd M.2.1 d cap isl) (Z : ty_Z sa A s) (hkc : k1 ≤ R.cells ∧ k2 ≤ R.slots) {n0 : Nat} {ρc : Nat → Int} (hL : isl = true → (ρc 0 = (L : Int) ∧ 0 < n0 ∧ L < 2147483648) ∧ ∀ i : Nat, ((sa (1000 + i) : Nat) : Int) - 2147483648 = (σ i).toInt) {good : ty_E × ty_S → Bool} {ts : List ty_Tp}
    (hT : ∀ T ∈ ts, ty_okT mt cn f good n0 d isl M ms ts T = true) (hgood : ∀ x, good x = true → ∀ (nr : Nat) (ρ : Nat → Int), n0 ≤ nr → ty_ag n0 ρc ρ → ty_G p l en R s m args below meth c k1 k2 Q D b sa A M.2.1 nr ρ w0 tys ms M.1 x.1 x.2) :
    ∀ T ∈ ts, ∀ ρ, ty_ag n0 ρc ρ → ∀ (ls : Array Slot) (ws : va_W) (H : Heap) (locs : List Loc), ty_Rl s D b sa A M.2.1 n0 w0 tys ms ρ T.2.1 T.2.2.1 [] T.2.2.2.1 ls [] ws H locs → W p l en R s m args below meth c H locs k1 k2 Q (F0 m T.1 ls []) := by
  have key := ty_lx_ind 12 (fun μ => ∀ T ∈ ts, ∀ ρ, T.2.2.2.2.map (fun t => (ty_ev ρ t + 4611686018427387904).toNat) = μ → ty_ag n0 ρc ρ → ∀ (ls : Array Slot) (ws : va_W) (H : Heap) (locs : List Loc), ty_Rl s D b sa A M.2.1 n0 w0 tys ms ρ T.2.1 T.2.2.1 [] T.2.2.2.1 ls [] ws H locs → W p l en R s m args below meth c H locs k1 k2 Q (F0 m T.1 ls [])) ?_
  · intro T hTm ρ hag ls ws H locs hR
    obtain ⟨h1, -⟩ := ex_and (hT T hTm)
    obtain ⟨-, h1⟩ := ex_and h1
    obtain ⟨h1, -⟩ := ex_and h1
    have h1 := ex_ble h1
    rw [ex_len_eq] at h1
    exact key _ (by rw [List.length_map]; exact h1) T hTm ρ rfl hag ls ws H locs hR
  · intro μ hμ ih T hTm ρ hw hag ls ws H locs hR
    obtain ⟨h1, h2⟩ := ex_and (hT T hTm)
    obtain ⟨h3, h1⟩ := ex_and h1
    obtain ⟨-, h4⟩ := ex_and h1
    have h3 := ex_ble h3
    have h4 := ty_every_t h4
    unfold ty_outs at h2
    split at h2
    · rename_i outs houts
      have h2 := ty_every_t h2
      have hG := hs true _ d isl M ms T.2.1 _ outs houts own nm cd ret hPO p en R s m args below meth c Q D σ b sa L A T.2.1.1 ρ w0 tys cap k1 k2 hkc X Z (fun z => by
        obtain ⟨⟨z1, z2, z3⟩, z4⟩ := hL z
        exact ⟨⟨(hag 0 z2).symm.trans z1, by omega, z3⟩, z4⟩) (fun x hx => by
        rcases Bool.or_eq_true _ _ |>.mp (h2 x hx) with h5 | h5
        · exact hgood x h5 T.2.1.1 ρ h3 hag
        · obtain ⟨T', hT', h6⟩ := ty_any_t h5
          intro ρ' ha' pc ls' xs' ws' H' locs' hh hsub hR'
          obtain ⟨h7, -⟩ := ex_and (hT T' hT')
          obtain ⟨h7, h8⟩ := ex_and h7
          obtain ⟨h8, -⟩ := ex_and h8
          have h8 := ex_ble h8
          rw [ex_len_eq] at h8
          obtain ⟨e1, e2, ρ'', k1, k2, k3⟩ := ty_mtT_ok h6 (ex_ble h7) (hag.tr ha' h3) hh hR'
          subst e1
          subst e2
          have hlx := k3 T.2.2.2.2 rfl T.2.1.1 ρ ha' (fun t ht => by
            obtain ⟨z1, z2⟩ := ex_and (h4 t ht)
            have z2 := ty_le_t z2
            have z3 := ty_lo_ok hR.er.1 t
            exact ⟨ty_scb_t z1, by omega⟩)
          rw [hw] at hlx
          exact ih _ (by rw [List.length_map]; exact h8) hlx T' hT' ρ'' rfl k1 ls' ws' H' locs' k2)
      exact hG.2 ρ (fun _ _ => rfl) T.1 ls [] ws H locs (ex_jp_sub.2.resolve_left hG.1) ex_jp_sub.1 (hR.re (Nat.le_refl _))
    · cases h2
set_option maxHeartbeats 4000000 in
/-- from a start: the same -/
theorem ty_entry {mt : Nat → Option ex_M} {cn : List ty_Con} {f : Nat} (hs : ty_Snd mt mi cn l f) {M : ex_M} {ret : Option FieldType} (hPO : ty_PO mi own nm cd M.2.2.1 ret M.1) (X : ex_X p R s m args meth c σ b L A own nm cd M.2.1 d cap isl) (Z : ty_Z sa A s) (hkc : k1 ≤ R.cells ∧ k2 ≤ R.slots) {n0 : Nat} {ρc : Nat → Int} (hL : isl = true → (ρc 0 = (L : Int) ∧ 0 < n0 ∧ L < 2147483648) ∧ ∀ i : Nat, ((sa (1000 + i) : Nat) : Int) - 2147483648 = (σ i).toInt) {good : ty_E × ty_S → Bool} {ts : List ty_Tp}
    (hT : ∀ T ∈ ts, ty_okT mt cn f good n0 d isl M ms ts T = true) (hgood : ∀ x, good x = true → ∀ (nr : Nat) (ρ : Nat → Int), n0 ≤ nr → ty_ag n0 ρc ρ → ty_G p l en R s m args below meth c k1 k2 Q D b sa A M.2.1 nr ρ w0 tys ms M.1 x.1 x.2) {S : ty_S} (hE : ty_okE mt cn f good n0 d isl M ms ts e S = true) : S.1 ≠ [] ∧ ty_G p l en R s m args below meth c k1 k2 Q D b sa A M.2.1 n0 ρc w0 tys ms M.1 e S := by
  unfold ty_okE ty_outs at hE
  split at hE
  · rename_i outs houts
    have h2 := ty_every_t hE
    refine hs false _ d isl M ms e _ outs houts own nm cd ret hPO p en R s m args below meth c Q D σ b sa L A n0 ρc w0 tys cap k1 k2 hkc X Z hL (fun x hx => ?_)
    rcases Bool.or_eq_true _ _ |>.mp (h2 x hx) with h5 | h5
    · exact hgood x h5 n0 ρc (Nat.le_refl _) (fun _ _ => rfl)
    · obtain ⟨T', hT', h6⟩ := ty_any_t h5
      intro ρ' ha' pc ls' xs' ws' H' locs' hh hsub hR'
      obtain ⟨h7, -⟩ := ex_and (hT T' hT')
      obtain ⟨h7, -⟩ := ex_and h7
      obtain ⟨e1, e2, ρ'', k1, k2, -⟩ := ty_mtT_ok h6 (ex_ble h7) ha' hh hR'
      subst e1
      subst e2
      exact ty_loop hs hPO X Z hkc hL hT hgood T' hT' ρ'' k1 ls' ws' H' locs' k2
  · cases hE
end TYE
/-! a contract is kept -/
noncomputable def ty_in0 (sp : Option (Nat ⊕ ty_t)) (e : ty_E) (S : ty_S) : Option (List (ty_E × ty_S)) := match sp with
  | none => some [(e, S)]
  | some (.inl i) => ty_spl e i S
  | some (.inr d) => bif ty_scb e.1 d then some (ty_cut e d S) else none
noncomputable def ty_okL (f : ty_E × ty_S → Bool) (o : Option (List (ty_E × ty_S))) : Bool := match o with
  | some l => ty_every f l
  | none => false
set_option maxHeartbeats 4000000 in
theorem ty_chk {l : Launch} {mi : Nat → Option ex_I} {mt : Nat → Option ex_M} {cn : List ty_Con} {f : Nat} (hs : ty_Snd mt mi cn l f) {C : ty_Con} {M : ex_M} {I : ex_I} (hI : mi C.1 = some I) (hMO : ty_MO mi M I) {ts : List ty_Tp} {sp : Option (Nat ⊕ ty_t)} (h0 : (Nat.ble (ty_csum C.2.1) M.2.1 && ty_okL (fun x => ty_okE mt cn f (ty_mpP M.2.2.1 C.2.2.1.1 C.2.2.2.2.1) C.2.2.1.1 C.2.2.2.2.2.2 false M C.2.2.2.2.2.1 ts x.1 x.2) (ty_in0 sp C.2.2.1 (M.1, ty_args C.2.1 0, [], C.2.2.2.1))) = true) (hT : ∀ T ∈ ts, ty_okT mt cn f (ty_mpP M.2.2.1 C.2.2.1.1 C.2.2.2.2.1) C.2.2.1.1 C.2.2.2.2.2.2 false M C.2.2.2.2.2.1 ts T = true) : ty_ConOk mi l C := by
  refine ⟨I, M.2.1, hI, hMO.1, fun D b sa ρ ws tys va sz he ha hK hth => ?_⟩
  obtain ⟨hlen, hE⟩ := ex_and h0
  obtain ⟨m0, m8, m9⟩ := hMO
  refine Met.ofW (cc := I.2.1) (maxL := M.2.1) (ret := I.2.2.1) m0.1 rfl ?_
  intro p en s m args below meth c s₁ B hml hv
  obtain ⟨rfl, ⟨hsz, hP, hK0, hD0, hNw, hAO⟩, Z⟩ := hv
  subst hsz
  have hts := atoms_spec (ws := Cond.code I.1 I.2.1 M.2.1 I.2.2.1 :: ex_tb) B.pre
  have X : ex_X p (headSpec (Cond.code I.1 I.2.1 M.2.1 I.2.2.1 :: ex_tb) (ty_Rm C.2.2.2.2.2.2)).room s m va.toArray meth c (fun _ => 0) b 0 (va_A ws s.heap.size) I.1.cls I.1.name I.2.1 M.2.1 C.2.2.2.2.2.2 (0, 0) false := ⟨B.exec, B.bytes, hml, findClass_of_methodNamed B.named, fun w hw => hts w (List.mem_cons_of_mem _ hw), fun q hq => Or.inr hq, hNw, hAO, (fun z => by cases z), (name_of_methodNamed B.named B.method).1, ⟨Nat.le_refl _, Nat.le_refl _⟩, Nat.le_refl _, Nat.le_refl _⟩
  have hG0 := fun (x : ty_E × ty_S) (hx : ty_okE mt cn f (ty_mpP M.2.2.1 C.2.2.1.1 C.2.2.2.2.1) C.2.2.1.1 C.2.2.2.2.2.2 false M C.2.2.2.2.2.1 ts x.1 x.2 = true) => ty_entry (en := en) (below := below) (D := D) (sa := sa) (w0 := ws) (tys := tys) (Q := MQ below (ty_Qc D b sa ρ C.2.2.1.1 C.2.2.2.2.2.1 ws tys s.heap.size C.2.2.2.2.1) va.toArray s 0 0 (va_A ws s.heap.size)) hs m9 X Z ⟨Nat.zero_le _, Nat.zero_le _⟩ (n0 := C.2.2.1.1) (ρc := ρ) (fun z => by cases z) hT (fun x' hx nr ρ1 hn hag => by
    unfold ty_mpP at hx
    split at hx
    · rename_i a hra
      refine ty_ret_ok B.exec B.bytes B.returns B.notSynchronized m9 hra (fun oc t hA hF => ⟨?_, hF⟩)
      obtain ⟨po, hpo, hm⟩ := ty_any_t hx
      refine ⟨po, hpo, ?_⟩
      obtain ⟨ρ', vo, ws', a1, a2, a3, a4, a5, a6, a7⟩ := hA
      obtain ⟨s1, s2, s3⟩ := ty_sat_ok a7.1 a4 a6
      obtain ⟨g1, hm⟩ := ex_and hm
      obtain ⟨g2, hm⟩ := ex_and hm
      obtain ⟨g3, hm⟩ := ex_and hm
      obtain ⟨g4, g5⟩ := ex_and hm
      obtain ⟨t1, t2⟩ := ty_insE_ok s1 g3
      have g2 := ex_ble g2
      refine ⟨_, vo, ws', a1, fun i hi => ?_, g2, t2, ty_vms_ok s1 t1 g4 (by rw [s2]; exact a5), ty_kms_ok s1 t1 (by rw [s2]; exact s3) g5, a7⟩
      have := (t1 i (by omega)).2
      rw [ty_idc_ok g1 ρ' hi] at this
      exact ((hag.tr a2 hn) i hi).trans this
    · cases hx) hx
  rw [lg_entry_eq]
  obtain ⟨a1, a2⟩ := ty_args_ok ha 0
  have hl := lv_entry va (n := M.2.1) (by rw [a2]; exact ex_ble hlen)
  obtain ⟨q, r, hq, hq0⟩ := m8
  have hR0 : ty_Rl s D b sa (va_A ws s.heap.size) M.2.1 C.2.2.1.1 ws tys C.2.2.2.2.2.1 ρ C.2.2.1 (ty_args C.2.1 0) [] C.2.2.2.1 _ [] ws s.heap [] := ⟨⟨_, hl, a1⟩, he, trivial, hK, hth, ty_frm.rf, Nat.le_refl _, hK0, hP, hD0.self, va_S.rf, ex_xt.rf⟩
  rw [hq] at hE
  have hsub : ∀ x ∈ q :: r, x ∈ M.1 := fun x hx => by rw [hq]; exact hx
  unfold ty_okL at hE
  split at hE
  · rename_i lx hlx
    have hE := ty_every_t hE
    have hN : ∀ x ∈ lx, _ := fun x hx => hG0 x (hE x hx)
    cases sp with
    | none =>
      have hlx : some [(C.2.2.1, ((q :: r, ty_args C.2.1 0, [], C.2.2.2.1) : ty_S))] = some lx := hlx
      injection hlx with hlx
      subst hlx
      have := (hN _ (List.mem_singleton.mpr rfl)).2 ρ (fun _ _ => rfl) q.1 _ [] ws s.heap [] ⟨q, r, rfl, rfl⟩ hsub hR0
      rw [hq0] at this
      exact this
    | some z =>
      cases z with
      | inl i =>
        have := ty_spl_ok (show ty_spl C.2.2.1 i (q :: r, ty_args C.2.1 0, [], C.2.2.2.1) = some lx from hlx) hN hsub (fun _ _ => rfl) hR0
        rw [hq0] at this
        exact this
      | inr d =>
        obtain ⟨h1, h2⟩ := ex_bifs (show (bif ty_scb C.2.2.1.1 d then some (ty_cut C.2.2.1 d (q :: r, ty_args C.2.1 0, [], C.2.2.2.1)) else none) = some lx from hlx)
        injection h2 with h2
        subst h2
        have := ty_cut_ok (ty_scb_t h1) hN hsub (fun _ _ => rfl) hR0
        rw [hq0] at this
        exact this
  · cases hE
