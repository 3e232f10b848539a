/-! the state behind the constructors keeps to the kinds -/
noncomputable def ty_fv (f : ty_F) (v : ex_V) : Bool := match f, v with
  | .inl (l, h), .inl (.inl n) => ty_le l ((n : Int) - 2147483648) && ty_le ((n : Int) - 2147483648) h
  | .inr (.inl ()), .inr (.inr (.inl _)) => true
  | .inr (.inr k), .inr (.inl (some j)) => (match ex_nth ty_kl j with
    | some k' => Nat.beq k k'
    | none => false)
  | _, _ => false
noncomputable def ty_fvs (fs : List ty_F) (vs : List ex_V) : Bool := ty_every (fun i => match ex_nth fs i, ex_nth vs i with
  | some f, some v => ty_fv f v
  | _, _ => false) (ex_range (ex_len fs) 0)
noncomputable def ty_cc (c : ty_C) (d : ex_C) : Bool := match c, d with
  | .inl o, .inl w => Nat.beq o.1 w.1 && ty_fvs o.2 w.2
  | .inr (t, N, f), .inr (t', N', l) => Nat.beq t t' && (Nat.beq N N' && ((ty_every (fun q => ty_fv f q.2) l && ty_fv f (ex_ov t [] 0)) || ty_every (fun j => ty_fv f (ex_ov t l j)) (ex_range N 0)))
  | _, _ => false
noncomputable def ty_c1 (j : Nat) : Bool := match ex_nth ty_kl j, ex_get ex_h j with
  | some k, some d => (match ex_nth ty_ct k with
    | some c => ty_cc c d
    | none => false)
  | _, _ => false
noncomputable def ty_kv (j i : Nat) : Option Int := match ex_get ex_h j with
  | some (.inl o) => (match ex_nth o.2 i with
    | some (.inl (.inl n)) => some ((n : Int) - 2147483648)
    | _ => none)
  | some (.inr o) => bif Nat.blt i o.2.1 then (match ex_ov o.1 o.2.2 i with
    | .inl (.inl n) => some ((n : Int) - 2147483648)
    | _ => none) else none
  | none => none
noncomputable def ty_kb (q : ty_Q) : Bool := match q with
  | (kd, (.ofNat j, []), (.ofNat i, []), .inl (.inl (z, []))) => !(ty_isG kd) && ((match ex_nth ty_kl j with
    | some k => Nat.beq k kd
    | none => false) && (match ty_kv j i with
    | some y => ty_0 (y - z)
    | none => false))
  | _ => false
set_option maxRecDepth 1000000 in
theorem ty_c1_t : ty_every ty_c1 (ex_range 533 0) = true := by decide +kernel
set_option maxRecDepth 1000000 in
theorem ty_kb_t : ty_every ty_kb ty_lK = true := by decide +kernel
theorem ty_kl_len : ty_kl.length = 533 := by decide +kernel
theorem ty_lk_mem {α : Type} {i : Nat} {v : α} : ∀ {l : List (Nat × α)}, ex_lk l i = some v → ∃ q ∈ l, q.2 = v
  | [], h => by cases h
  | q :: l, h => by
    rcases ex_bif (P := fun z => z = some v) (show (bif Nat.beq q.1 i then some q.2 else ex_lk l i) = some v from h) with ⟨-, h2⟩ | ⟨-, h2⟩
    · injection h2 with h2
      exact ⟨q, List.mem_cons_self, h2⟩
    · obtain ⟨r, r1, r2⟩ := ty_lk_mem h2
      exact ⟨r, List.mem_cons_of_mem _ r1, r2⟩
section TYW
variable {ρ : Nat → Int32} {b : Nat} {ws : va_W} {tys : List (ClassId × FieldType)}
theorem ty_fv_ok {f : ty_F} {v : ex_V} {x : Value} (h : ty_fv f v = true) (hv : ex_vr ρ b ws v x) : ty_fo ws f x := by
  unfold ty_fv at h
  split at h
  · obtain ⟨y, rfl, hy⟩ := hv
    obtain ⟨h1, h2⟩ := ex_and h
    have h1 := ty_le_t h1
    have h2 := ty_le_t h2
    have h3 := ex_u_int y
    rw [hy] at h3
    exact ⟨y, rfl, by dsimp only; omega, by dsimp only; omega⟩
  · exact ⟨_, hv⟩
  · rename_i k j
    obtain ⟨a, e, h1, h2⟩ := hv
    split at h
    · rename_i k' hk
      rw [ex_nth_get] at hk
      exact ⟨j, a, e, by rw [ex_beq h]; exact hk, h1, h2⟩
    · cases h
  · cases h
theorem ty_cc_ok {c : ty_C} {d : ex_C} {ev : va_E} (h : ty_cc c d = true) (hd : ex_cr ρ b tys ws d ev) : ty_co tys ws c ev := by
  unfold ty_cc at h
  split at h
  · rename_i o w
    obtain ⟨h1, h2⟩ := ex_and h
    cases ev with
    | inl _ => exact hd.elim
    | inr z =>
      obtain ⟨d1, d2, d3⟩ := hd
      refine ⟨(ex_beq h1).trans d1, fun i f hi => ?_⟩
      have hlt := (List.getElem?_eq_some_iff.mp hi).1
      have h3 := ty_every_t h2 i ((ex_range_mem _ _ _).mpr ⟨Nat.zero_le _, by rw [ex_len_eq]; omega⟩)
      have hf : ex_nth o.2 i = some f := by rw [ex_nth_get]; exact hi
      rw [hf] at h3
      cases hv : ex_nth w.2 i with
      | none => rw [hv] at h3; cases h3
      | some v =>
        rw [hv] at h3
        obtain ⟨x, x1, x2⟩ := d3 i v hv
        exact ⟨x, x1, ty_fv_ok h3 x2⟩
  · rename_i t N f t' N' l
    obtain ⟨h1, h2⟩ := ex_and h
    obtain ⟨h2, h3⟩ := ex_and h2
    have h1 := ex_beq h1
    have h2 := ex_beq h2
    subst h1
    subst h2
    cases ev with
    | inr _ => exact hd.elim
    | inl z =>
      obtain ⟨d1, d2, d3, d4, d5⟩ := hd
      refine ⟨d1, d2, d3, d4, fun j hj => ty_fv_ok ?_ (d5 j hj)⟩
      show ty_fv f (ex_ov t l j) = true
      rcases Bool.or_eq_true _ _ |>.mp h3 with h3 | h3
      · obtain ⟨g1, g2⟩ := ex_and h3
        cases hv : ex_lk l j with
        | none =>
          have e1 : ex_ov t l j = ex_ov t [] 0 := by
            unfold ex_ov
            rw [hv]
            rfl
          rw [e1]
          exact g2
        | some v =>
          have e1 : ex_ov t l j = v := by
            unfold ex_ov
            rw [hv]
          rw [e1]
          obtain ⟨q, hq, rfl⟩ := ty_lk_mem hv
          exact ty_every_t g1 q hq
      · exact ty_every_t h3 j ((ex_range_mem _ _ _).mpr ⟨Nat.zero_le _, by have : j < N := hj; omega⟩)
  · cases h
theorem ty_th0 (hr : ex_hr ρ b tys ws ex_h 533) : ty_th tys ws := fun j k hk => by
  have hlt : j < 533 := by rw [← ty_kl_len]; exact (List.getElem?_eq_some_iff.mp hk).1
  have h := ty_every_t ty_c1_t j ((ex_range_mem _ _ _).mpr ⟨Nat.zero_le _, by omega⟩)
  unfold ty_c1 at h
  rw [show ex_nth ty_kl j = some k by rw [ex_nth_get]; exact hk] at h
  cases hd : ex_get ex_h j with
  | none => rw [hd] at h; cases h
  | some d =>
    rw [hd] at h
    have h : (match ex_nth ty_ct k with
      | some c => ty_cc c d
      | none => false) = true := h
    split at h
    · rename_i c hc
      obtain ⟨a, ev, g1, g2⟩ := hr.2 j d hd
      exact ⟨a, ev, c, g1, by rw [← ex_nth_get]; exact hc, ty_cc_ok h g2⟩
    · cases h
theorem ty_kb_ok {sa : Nat → Nat} {n : Nat} {σ : Nat → Int} (hr : ex_hr ρ b tys ws ex_h 533) {q : ty_Q} (hq : ty_kb q = true) : ty_k1 b sa n σ ws q := by
  unfold ty_kb at hq
  split at hq
  · rename_i kd j i z
    obtain ⟨h1, h2⟩ := ex_and hq
    obtain ⟨h2, h3⟩ := ex_and h2
    have hg : ty_isG kd = false := ty_not_t h1
    have fin : ∀ (a : Nat) (ev : va_E) (y : Int32), ws[j]? = some (a, ev) → ty_sl ev i = some (.int y) → y.toInt = z → ty_k1 b sa n σ ws (kd, (.ofNat j, []), (.ofNat i, []), .inl (.inl (z, []))) := fun a ev y g1 g2 g3 => by
      refine Or.inl ⟨hg, j, i, a, ev, .int y, ty_is_k _ _ (j : Int), ty_is_k _ _ (i : Int), ?_, g1, g2, rfl, y, rfl, ?_⟩
      · split at h2
        · rename_i k hk
          rw [ex_nth_get] at hk
          rw [← ex_beq h2]
          exact hk
        · cases h2
      · rw [g3]
        exact ty_is_k _ _ z
    split at h3
    · rename_i y hy
      have h3 := ty_0_t h3
      unfold ty_kv at hy
      split at hy
      · rename_i o ho
        split at hy
        · rename_i m hm
          injection hy with hy
          obtain ⟨a, ev, g1, g2⟩ := hr.2 j _ ho
          cases ev with
          | inl _ => exact g2.elim
          | inr w =>
            obtain ⟨-, -, d3⟩ := g2
            obtain ⟨x, x1, x2⟩ := d3 i _ hm
            obtain ⟨v, rfl, hv⟩ := x2
            have := ex_u_int v
            rw [hv] at this
            exact fin a _ v g1 x1 (by omega)
        · cases hy
      · rename_i o ho
        obtain ⟨hi, hy⟩ := ex_bifs hy
        split at hy
        · rename_i m hm
          injection hy with hy
          obtain ⟨a, ev, g1, g2⟩ := hr.2 j _ ho
          cases ev with
          | inr _ => exact g2.elim
          | inl w =>
            obtain ⟨-, -, d3, -, d5⟩ := g2
            have hi : i < o.2.1 := Nat.le_of_ble_eq_true hi
            have x2 := d5 i hi
            rw [hm] at x2
            obtain ⟨v, x3, hv⟩ := x2
            have := ex_u_int v
            rw [hv] at this
            refine fin a _ v g1 ?_ (by omega)
            show (if i < w.2.1 then some (ex_ag w.2 i) else none) = _
            rw [if_pos (by rw [d3]; exact hi), x3]
        · cases hy
      · cases hy
    · cases h3
  · cases hq
theorem ty_K0 {sa : Nat → Nat} {n : Nat} {σ : Nat → Int} (hr : ex_hr ρ b tys ws ex_h 533) : ty_Kr b sa n σ ws ty_lK := fun q hq => ty_kb_ok hr (ty_every_t ty_kb_t q hq)
end TYW
