/-! a state held against a head or a contract: the names of the one by terms of the other -/
abbrev ty_H : Type := List (Nat × ty_t)
abbrev ty_A : Type := ty_E × List ty_V × ty_K
abbrev ty_Q : Type := Nat × ty_t × ty_t × ty_V
noncomputable def ty_tm (th : ty_H) (i : Nat) : ty_t := match ex_lk th i with
  | some u => u
  | none => ty_k 0
noncomputable def ty_sb (th : ty_H) (t : ty_t) : ty_t := List.rec (motive := fun _ => ty_t) (ty_k t.1) (fun q _ ih => ty_add ih (ty_tm th q.1) q.2) t.2
noncomputable def ty_scb (n : Nat) (t : ty_t) : Bool := ty_every (fun q => Nat.blt q.1 n) t.2
def ty_tq (n : Nat) (th : ty_H) (m : Nat) (ρ σ : Nat → Int) : Prop := ∀ i, i < n → ty_sc m (ty_tm th i) ∧ ty_ev ρ (ty_tm th i) = σ i
theorem ty_scb_t {n : Nat} {t : ty_t} (h : ty_scb n t = true) : ty_sc n t := fun q hq => Nat.le_of_ble_eq_true (ty_every_t h q hq)
section TYT
variable {n m : Nat} {th : ty_H} {ρ σ : Nat → Int} {b : Nat} {sa : Nat → Nat} {ws ws' : va_W} {e : ty_E}
theorem ty_sb_ok (h : ty_tq n th m ρ σ) {t : ty_t} (ht : ty_sc n t) : ty_sc m (ty_sb th t) ∧ ty_ev ρ (ty_sb th t) = ty_ev σ t := by
  obtain ⟨c, l⟩ := t
  have key : ∀ l : List (Nat × Int), (∀ q ∈ l, q.1 < n) → ty_sc m (ty_sb th (c, l)) ∧ ty_ev ρ (ty_sb th (c, l)) = c + ty_el σ l := by
    intro l
    induction l with
    | nil => exact fun _ => ⟨ty_k_sc, by show ty_ev ρ (ty_k c) = _; rw [ty_k_ev]; show c = c + 0; omega⟩
    | cons q r ih =>
      intro hl
      obtain ⟨i1, i2⟩ := ih (fun z hz => hl z (List.mem_cons_of_mem _ hz))
      obtain ⟨j1, j2⟩ := h q.1 (hl q List.mem_cons_self)
      refine ⟨ty_add_sc i1 j1, ?_⟩
      show ty_ev ρ (ty_add (ty_sb th (c, r)) (ty_tm th q.1) q.2) = c + (q.2 * σ q.1 + ty_el σ r)
      rw [ty_add_ev, i2, j2]
      omega
  exact key l ht
theorem ty_sb_is (h : ty_tq n th m ρ σ) {t : ty_t} {z : Int} (ht : ty_is n σ t z) : ty_is m ρ (ty_sb th t) z := ⟨(ty_sb_ok h ht.1).1, (ty_sb_ok h ht.1).2.trans ht.2⟩
theorem ty_is_sb (h : ty_tq n th m ρ σ) {t : ty_t} {z : Int} (hs : ty_sc n t) (ht : ty_ev ρ (ty_sb th t) = z) : ty_is n σ t z := ⟨hs, (ty_sb_ok h hs).2.symm.trans ht⟩
noncomputable def ty_sbv (th : ty_H) (v : ty_V) : ty_V := match v with
  | .inl (.inl t) => ty_i (ty_sb th t)
  | .inl (.inr t) => ty_j (ty_sb th t)
  | .inr (.inl q) => ty_r q.1 (ty_sb th q.2)
  | .inr (.inr (.inl q)) => ty_c (ty_sb th q.1) (ty_sb th q.2)
  | .inr (.inr (.inr v)) => .inr (.inr (.inr v))
theorem ty_sbv_ok (h : ty_tq n th m ρ σ) {v : ty_V} {x : Value} (hv : ty_vr b sa n σ ws v x) : ty_vr b sa m ρ ws (ty_sbv th v) x := by
  rcases v with (t | t) | q | q | i | u
  · obtain ⟨y, h1, h2⟩ := hv
    exact ⟨y, h1, ty_sb_is h h2⟩
  · obtain ⟨y, h1, h2⟩ := hv
    exact ⟨y, h1, ty_sb_is h h2⟩
  · obtain ⟨j, a, ev, h1, h2, h3, h4⟩ := hv
    exact ⟨j, a, ev, ty_sb_is h h1, h2, h3, h4⟩
  · obtain ⟨y, z, h1, h2, h3⟩ := hv
    exact ⟨y, z, h1, ty_sb_is h h2, ty_sb_is h h3⟩
  · exact hv
  · exact hv
noncomputable def ty_eqv (e : ty_E) (a b : ty_t) : Bool := ty_ent e (ty_add a b (-1)) && ty_ent e (ty_add b a (-1))
theorem ty_eqv_ok (he : ty_er ρ e) {a b : ty_t} (h : ty_eqv e a b = true) : ty_ev ρ a = ty_ev ρ b := by
  obtain ⟨h1, h2⟩ := ex_and h
  have h1 := ty_ent_ok he h1
  have h2 := ty_ent_ok he h2
  rw [ty_sub_ev] at h1 h2
  omega
noncomputable def ty_vm (e : ty_E) (th : ty_H) (n : Nat) (tv v : ty_V) : Bool := match tv, v with
  | .inl (.inl t), .inl (.inl u) => ty_scb n t && ty_eqv e (ty_sb th t) u
  | .inl (.inr t), .inl (.inr u) => ty_scb n t && ty_eqv e (ty_sb th t) u
  | .inr (.inl q), .inr (.inl r) => Nat.beq q.1 r.1 && (ty_scb n q.2 && ty_eqv e (ty_sb th q.2) r.2)
  | .inr (.inr (.inr (.inl i))), .inr (.inr (.inr (.inl j))) => Nat.beq i j
  | .inr (.inr (.inr (.inr ()))), .inr (.inr (.inr (.inr ()))) => true
  | _, _ => false
theorem ty_tv_ok (he : ty_er ρ e) (h : ty_tq n th e.1 ρ σ) {t u : ty_t} {z : Int} (hm : (ty_scb n t && ty_eqv e (ty_sb th t) u) = true) (hu : ty_is e.1 ρ u z) : ty_is n σ t z := by
  obtain ⟨h1, h2⟩ := ex_and hm
  exact ty_is_sb h (ty_scb_t h1) ((ty_eqv_ok he h2).trans hu.2)
theorem ty_vm_ok (he : ty_er ρ e) (h : ty_tq n th e.1 ρ σ) {tv v : ty_V} {x : Value} (hm : ty_vm e th n tv v = true) (hv : ty_vr b sa e.1 ρ ws v x) : ty_vr b sa n σ ws tv x := by
  unfold ty_vm at hm
  split at hm
  · obtain ⟨y, h1, h2⟩ := hv
    exact ⟨y, h1, ty_tv_ok he h hm h2⟩
  · obtain ⟨y, h1, h2⟩ := hv
    exact ⟨y, h1, ty_tv_ok he h hm h2⟩
  · rename_i q r
    obtain ⟨h0, hm⟩ := ex_and hm
    obtain ⟨j, a, ev, h1, h2, h3, h4⟩ := hv
    exact ⟨j, a, ev, ty_tv_ok he h hm h1, by rw [ex_beq h0]; exact h2, h3, h4⟩
  · have := ex_beq hm
    subst this
    exact hv
  · exact hv
  · cases hm
noncomputable def ty_ro (ρ : Nat → Int) (th : ty_H) (n : Nat) : Nat → Int := fun i => if i < n then ty_ev ρ (ty_tm th i) else 0
noncomputable def ty_rgE (e : ty_E) (t : ty_t) (p : Int × Int) : Bool := ty_ent e (ty_add (ty_k p.1) t (-1)) && ty_ent e (ty_pl t (-p.2))
noncomputable def ty_insE (e : ty_E) (th : ty_H) (E : ty_E) : Bool := ty_every (fun q => Nat.blt q.1 E.1) E.2.1 && (ty_every (fun i => ty_scb e.1 (ty_tm th i) && ty_rgE e (ty_tm th i) (ty_iv E.2.1 i)) (ex_range E.1 0) && ty_every (fun t => ty_scb E.1 t && ty_ent e (ty_sb th t)) E.2.2)
theorem ty_iv_far {i : Nat} : ∀ {v : List (Nat × Int × Int)}, (∀ q ∈ v, q.1 ≠ i) → ty_iv v i = (-9223372036854775808, 9223372036854775807)
  | [], _ => rfl
  | q :: v, h => by
    rw [ty_iv_cons]
    have hb : Nat.beq q.1 i = false := by
      cases hb : Nat.beq q.1 i with
      | false => rfl
      | true => exact absurd (ex_beq hb) (h q List.mem_cons_self)
    rw [hb]
    exact ty_iv_far (fun z hz => h z (List.mem_cons_of_mem _ hz))
theorem ty_insE_ok (he : ty_er ρ e) {E : ty_E} (h : ty_insE e th E = true) : ty_tq E.1 th e.1 ρ (ty_ro ρ th E.1) ∧ ty_er (ty_ro ρ th E.1) E := by
  obtain ⟨h1, h2⟩ := ex_and h
  obtain ⟨h2, h3⟩ := ex_and h2
  have h1 := ty_every_t h1
  have h2 := ty_every_t h2
  have h3 := ty_every_t h3
  have k2 : ∀ i, i < E.1 → ty_sc e.1 (ty_tm th i) ∧ (ty_iv E.2.1 i).1 ≤ ty_ev ρ (ty_tm th i) ∧ ty_ev ρ (ty_tm th i) ≤ (ty_iv E.2.1 i).2 := fun i hi => by
    obtain ⟨g1, g2⟩ := ex_and (h2 i ((ex_range_mem _ _ _).mpr ⟨Nat.zero_le _, by omega⟩))
    obtain ⟨g2, g3⟩ := ex_and g2
    have g2 := ty_ent_ok he g2
    have g3 := ty_ent_ok he g3
    rw [ty_sub_ev, ty_k_ev] at g2
    rw [ty_pl_ev] at g3
    exact ⟨ty_scb_t g1, by omega, by omega⟩
  have ht : ty_tq E.1 th e.1 ρ (ty_ro ρ th E.1) := fun i hi => ⟨(k2 i hi).1, by unfold ty_ro; rw [if_pos hi]⟩
  refine ⟨ht, fun i => ?_, fun c hc => ?_⟩
  · by_cases hi : i < E.1
    · unfold ty_ro
      rw [if_pos hi]
      exact (k2 i hi).2
    · unfold ty_ro
      rw [if_neg hi, ty_iv_far (fun q hq z => by
        have := Nat.le_of_ble_eq_true (h1 q hq)
        omega)]
      decide
  · obtain ⟨g1, g2⟩ := ex_and (h3 c hc)
    refine ⟨ty_scb_t g1, ?_⟩
    rw [← (ty_sb_ok ht (ty_scb_t g1)).2]
    exact ty_ent_ok he g2
noncomputable def ty_gm (e : ty_E) (th : ty_H) (n : Nat) (K : ty_K) (q : ty_Q) : Bool := ex_any (fun r => Nat.beq r.1 q.1 && (ty_eqv e (ty_sb th q.2.1) r.2.1 && (ty_eqv e (ty_sb th q.2.2.1) r.2.2.1 && ty_vm e th n q.2.2.2 r.2.2.2))) K
/-- entries that are so at once -/
noncomputable def ty_trv (e : ty_E) (th : ty_H) (n : Nat) (q : ty_Q) : Bool := bif Nat.beq q.1 1010 then ty_ent e (ty_add (ty_k 0) (ty_sb th q.2.1) (-1)) && (ty_sm e (ty_sb th q.2.2.1) (ty_k 0) && (match q.2.2.2 with
  | .inl (.inl v) => ty_scb n v
  | _ => false)) else bif Nat.beq q.1 1013 then ty_sm e (ty_sb th q.2.2.1) (ty_k 0) else bif Nat.beq q.1 1014 then ty_sm e (ty_sb th q.2.2.1) (ty_k 99) else false
noncomputable def ty_km (e : ty_E) (th : ty_H) (n : Nat) (K : ty_K) (q : ty_Q) : Bool := ty_scb n q.2.1 && (ty_scb n q.2.2.1 && (bif ty_isG q.1 then ty_gm e th n K q || ty_trv e th n q else ty_isK q.2.2.2 && (match ty_kf e K q.1 (ty_sb th q.2.1) (ty_sb th q.2.2.1) with
  | some w => ty_vm e th n q.2.2.2 w
  | none => false)))
theorem ty_g1.tr {n' : Nat} {q r : ty_Q} (h : ty_g1 m ρ ws r) (h0 : r.1 = q.1) (h1 : ∀ z, ty_is m ρ r.2.1 z → ty_is n' σ q.2.1 z) (h2 : ∀ z, ty_is m ρ r.2.2.1 z → ty_is n' σ q.2.2.1 z) (h3 : ∀ v', r.2.2.2 = ty_i v' → ∃ v, q.2.2.2 = ty_i v ∧ ∀ z, ty_is m ρ v' z → ty_is n' σ v z) : ty_g1 n' σ ws q := by
  rcases h with ⟨e, i, v, g1, g2, g3⟩ | ⟨e, a, k, v, g1, g2, g3, g4, g5⟩ | ⟨e, a, k, v, z, g1, g2, g3, g4, g5⟩ | ⟨e, b, r', v, z, g1, g2, g3, g4, g5⟩ | ⟨e, a, k, g1, g2, g3⟩ | ⟨e, i, g1, g2⟩ | ⟨e, z, g1, g2⟩
  · obtain ⟨v', k1, k2⟩ := h3 _ g2
    exact Or.inl ⟨h0.symm.trans e, i, v', h2 _ g1, k1, k2 _ g3⟩
  · obtain ⟨v', k1, k2⟩ := h3 _ g3
    exact Or.inr (Or.inl ⟨h0.symm.trans e, a, k, v', h1 _ g1, h2 _ g2, k1, k2 _ g4, g5⟩)
  · obtain ⟨v', k1, k2⟩ := h3 _ g3
    exact Or.inr (Or.inr (Or.inl ⟨h0.symm.trans e, a, k, v', z, h1 _ g1, h2 _ g2, k1, k2 _ g4, g5⟩))
  · obtain ⟨v', k1, k2⟩ := h3 _ g3
    exact Or.inr (Or.inr (Or.inr (Or.inl ⟨h0.symm.trans e, b, r', v', z, h1 _ g1, h2 _ g2, k1, k2 _ g4, g5⟩)))
  · exact Or.inr (Or.inr (Or.inr (Or.inr (Or.inl ⟨h0.symm.trans e, a, k, h1 _ g1, h2 _ g2, g3⟩))))
  · exact Or.inr (Or.inr (Or.inr (Or.inr (Or.inr (Or.inl ⟨h0.symm.trans e, i, h2 _ g1, g2⟩)))))
  · exact Or.inr (Or.inr (Or.inr (Or.inr (Or.inr (Or.inr ⟨h0.symm.trans e, z, h1 _ g1, g2⟩)))))
theorem ty_g2.tr {n' : Nat} {q r : ty_Q} (h : ty_g2 m ρ ws r) (h0 : r.1 = q.1) (h1 : ∀ z, ty_is m ρ r.2.1 z → ty_is n' σ q.2.1 z) (h2 : ∀ z, ty_is m ρ r.2.2.1 z → ty_is n' σ q.2.2.1 z) (h3 : ∀ v', r.2.2.2 = ty_i v' → ∃ v, q.2.2.2 = ty_i v ∧ ∀ z, ty_is m ρ v' z → ty_is n' σ v z) : ty_g2 n' σ ws q := by
  rcases h with ⟨e, x, y, v, g1, g2, g3, g4⟩ | ⟨e, x, y, v, g1, g2, g3, g4⟩ | ⟨e, V, k, v, z, g1, g2, g3, g4, g5⟩ | ⟨e, V, k, v, z, g1, g2, g3, g4, g5⟩ | ⟨e, k, u, g1, g2, g3⟩ | ⟨e, k, u, g1, g2, g3⟩ | ⟨e, k, u, g1, g2, g3⟩
  · obtain ⟨v', k1, k2⟩ := h3 _ g3
    exact Or.inl ⟨h0.symm.trans e, x, y, v', h1 _ g1, h2 _ g2, k1, k2 _ g4⟩
  · obtain ⟨v', k1, k2⟩ := h3 _ g3
    exact Or.inr (Or.inl ⟨h0.symm.trans e, x, y, v', h1 _ g1, h2 _ g2, k1, k2 _ g4⟩)
  · obtain ⟨v', k1, k2⟩ := h3 _ g3
    exact Or.inr (Or.inr (Or.inl ⟨h0.symm.trans e, V, k, v', z, h1 _ g1, h2 _ g2, k1, k2 _ g4, g5⟩))
  · obtain ⟨v', k1, k2⟩ := h3 _ g3
    exact Or.inr (Or.inr (Or.inr (Or.inl ⟨h0.symm.trans e, V, k, v', z, h1 _ g1, h2 _ g2, k1, k2 _ g4, g5⟩)))
  · exact Or.inr (Or.inr (Or.inr (Or.inr (Or.inl ⟨h0.symm.trans e, k, u, h1 _ g1, h2 _ g2, g3⟩))))
  · exact Or.inr (Or.inr (Or.inr (Or.inr (Or.inr (Or.inl ⟨h0.symm.trans e, k, u, h1 _ g1, h2 _ g2, g3⟩)))))
  · exact Or.inr (Or.inr (Or.inr (Or.inr (Or.inr (Or.inr ⟨h0.symm.trans e, k, u, h1 _ g1, h2 _ g2, g3⟩)))))
theorem ty_gh.tr {n' : Nat} {q r : ty_Q} (h : ty_gh sa m ρ ws r) (h0 : r.1 = q.1) (h1 : ∀ z, ty_is m ρ r.2.1 z → ty_is n' σ q.2.1 z) (h2 : ∀ z, ty_is m ρ r.2.2.1 z → ty_is n' σ q.2.2.1 z) (h3 : ∀ v', r.2.2.2 = ty_i v' → ∃ v, q.2.2.2 = ty_i v ∧ ∀ z, ty_is m ρ v' z → ty_is n' σ v z) : ty_gh sa n' σ ws q := by
  rcases h with h | h | ⟨e, i, v, g1, g2, g3⟩
  · exact Or.inl (h.tr h0 h1 h2 h3)
  · exact Or.inr (Or.inl (h.tr h0 h1 h2 h3))
  · obtain ⟨v', k1, k2⟩ := h3 _ g2
    exact Or.inr (Or.inr ⟨h0.symm.trans e, i, v', h2 _ g1, k1, k2 _ g3⟩)
theorem ty_trv_ok (he : ty_er ρ e) (h : ty_tq n th e.1 ρ σ) {q : ty_Q} (g1 : ty_sc n q.2.1) (g2 : ty_sc n q.2.2.1) (hm : ty_trv e th n q = true) : ty_g2 n σ ws q := by
  obtain ⟨y1, y2⟩ := ty_sb_ok h g1
  obtain ⟨w1, w2⟩ := ty_sb_ok h g2
  rcases ex_bif (P := fun z => z = true) hm with ⟨e0, hm⟩ | ⟨-, hm⟩
  · obtain ⟨m1, hm⟩ := ex_and hm
    obtain ⟨m2, m3⟩ := ex_and hm
    have m1 := ty_ent_ok he m1
    rw [ty_sub_ev, ty_k_ev, y2] at m1
    have m2 := ty_sm_ok he m2 ⟨w1, w2⟩ (ty_is_k _ _ _)
    split at m3
    · rename_i v hv
      exact Or.inr (Or.inr (Or.inl ⟨ex_beq e0, (ty_ev σ q.2.1).toNat, 0, v, ty_ev σ v, ⟨g1, by omega⟩, ⟨g2, m2⟩, hv, ⟨ty_scb_t m3, rfl⟩, fun j hj => absurd hj (Nat.not_lt_zero _)⟩))
    · cases m3
  rcases ex_bif (P := fun z => z = true) hm with ⟨e0, hm⟩ | ⟨-, hm⟩
  · have m2 := ty_sm_ok he hm ⟨w1, w2⟩ (ty_is_k _ _ _)
    exact Or.inr (Or.inr (Or.inr (Or.inr (Or.inr (Or.inl ⟨ex_beq e0, ty_ev σ q.2.1, 0, ⟨g1, rfl⟩, ⟨g2, m2⟩, fun V hV => absurd hV (Nat.not_lt_zero _)⟩)))))
  rcases ex_bif (P := fun z => z = true) hm with ⟨e0, hm⟩ | ⟨-, hm⟩
  · have m2 := ty_sm_ok he hm ⟨w1, w2⟩ (ty_is_k _ _ _)
    exact Or.inr (Or.inr (Or.inr (Or.inr (Or.inr (Or.inr ⟨ex_beq e0, ty_ev σ q.2.1, 99, ⟨g1, rfl⟩, ⟨g2, m2⟩, fun V h1 h2 => by omega⟩)))))
  · cases hm
theorem ty_km_ok (he : ty_er ρ e) (h : ty_tq n th e.1 ρ σ) {K : ty_K} (hK : ty_Kr b sa e.1 ρ ws K) {q : ty_Q} (hm : ty_km e th n K q = true) : ty_k1 b sa n σ ws q := by
  obtain ⟨g1, hm⟩ := ex_and hm
  obtain ⟨g2, hm⟩ := ex_and hm
  have g1 := ty_scb_t g1
  have g2 := ty_scb_t g2
  rcases ex_bif (P := fun z => z = true) hm with ⟨hg, hm⟩ | ⟨hg, hm⟩
  · rcases Bool.or_eq_true _ _ |>.mp hm with hm | hm
    case inr => exact Or.inr ⟨hg, Or.inr (Or.inl (ty_trv_ok he h g1 g2 hm))⟩
    obtain ⟨r, r1, r2⟩ := ty_any_t hm
    obtain ⟨r2, r3⟩ := ex_and r2
    obtain ⟨r3, r4⟩ := ex_and r3
    obtain ⟨r4, r5⟩ := ex_and r4
    have r2 := ex_beq r2
    refine Or.inr ⟨hg, ?_⟩
    rcases hK r r1 with ⟨z, -⟩ | ⟨-, z⟩
    · rw [r2, hg] at z; cases z
    refine z.tr r2 (fun y hy => ty_is_sb h g1 ((ty_eqv_ok he r3).trans hy.2)) (fun y hy => ty_is_sb h g2 ((ty_eqv_ok he r4).trans hy.2)) (fun v' hv' => ?_)
    rw [hv'] at r5
    obtain ⟨q1, q2, q3, qv⟩ := q
    rcases qv with (t | t) | t | t | t | t
    · exact ⟨t, rfl, fun y hy => ty_tv_ok he h r5 hy⟩
    all_goals cases r5
  · obtain ⟨k1, k2⟩ := ex_and hm
    split at k2
    · rename_i w hw
      obtain ⟨r, r1, r2, r3, r4, r5⟩ := ty_kf_ok hw
      rcases hK r r1 with ⟨-, j, i, a, ev, x, z1, z2, z3, z4, z5, z6, z7⟩ | ⟨z, -⟩
      · refine Or.inl ⟨hg, j, i, a, ev, x, ?_, ?_, by rw [← r2]; exact z3, z4, z5, k1, ?_⟩
        · obtain ⟨y1, y2⟩ := ty_sb_ok h g1
          exact ty_is_sb h g1 (ty_sm_ok he r4 z1 ⟨y1, rfl⟩).symm
        · obtain ⟨y1, y2⟩ := ty_sb_ok h g2
          exact ty_is_sb h g2 (ty_sm_ok he r3 z2 ⟨y1, rfl⟩).symm
        · rw [r5] at z7
          exact ty_vm_ok he h k2 z7
      · rw [r2, hg] at z; cases z
    · cases k2
noncomputable def ty_kms (e : ty_E) (th : ty_H) (n : Nat) (K : ty_K) (T : ty_K) : Bool := ty_every (ty_km e th n K) T
theorem ty_kms_ok (he : ty_er ρ e) (h : ty_tq n th e.1 ρ σ) {K : ty_K} (hK : ty_Kr b sa e.1 ρ ws K) {T : ty_K} (hm : ty_kms e th n K T = true) : ty_Kr b sa n σ ws T := fun q hq => ty_km_ok he h hK (ty_every_t hm q hq)
/-- values in a row -/
noncomputable def ty_vms (e : ty_E) (th : ty_H) (n : Nat) : List ty_V → List ty_V → Bool := fun l => List.rec (motive := fun _ => List ty_V → Bool) (fun r => match r with
  | [] => true
  | _ :: _ => false) (fun tv _ ih r => match r with
  | [] => false
  | v :: t => ty_vm e th n tv v && ih t) l
theorem ty_vms_ok (he : ty_er ρ e) (h : ty_tq n th e.1 ρ σ) : ∀ {l r : List ty_V} {xs : List Value}, ty_vms e th n l r = true → ty_sr b sa e.1 ρ ws r xs → ty_sr b sa n σ ws l xs
  | [], [], [], _, _ => trivial
  | [], [], _ :: _, _, hs => hs.elim
  | [], _ :: _, _, hm, _ => by cases hm
  | _ :: _, [], _, hm, _ => by cases hm
  | _ :: _, _ :: _, [], _, hs => hs.elim
  | tv :: l, v :: r, x :: xs, hm, hs => by
    obtain ⟨h1, h2⟩ := ex_and (show (ty_vm e th n tv v && ty_vms e th n l r) = true from hm)
    exact ⟨ty_vm_ok he h h1 hs.1, ty_vms_ok he h h2 hs.2⟩
theorem ty_sbvs_ok (h : ty_tq n th m ρ σ) : ∀ {l : List ty_V} {xs : List Value}, ty_sr b sa n σ ws l xs → ty_sr b sa m ρ ws (l.map (ty_sbv th)) xs
  | [], [], _ => trivial
  | [], _ :: _, hs => hs.elim
  | _ :: _, [], hs => hs.elim
  | _ :: _, _ :: _, hs => ⟨ty_sbv_ok h hs.1, ty_sbvs_ok h hs.2⟩
noncomputable def ty_sbk (th : ty_H) (q : ty_Q) : ty_Q := (q.1, ty_sb th q.2.1, ty_sb th q.2.2.1, ty_sbv th q.2.2.2)
theorem ty_sbv_isK {th : ty_H} {v : ty_V} (h : ty_isK v = true) : ty_isK (ty_sbv th v) = true := by
  rcases v with (t | t) | t
  · rfl
  · rfl
  · cases h
theorem ty_sbk_ok (h : ty_tq n th m ρ σ) {q : ty_Q} (hq : ty_k1 b sa n σ ws q) : ty_k1 b sa m ρ ws (ty_sbk th q) := by
  rcases hq with ⟨hg, j, i, a, ev, x, z1, z2, z3, z4, z5, z6, z7⟩ | ⟨hg, z⟩
  · exact Or.inl ⟨hg, j, i, a, ev, x, ty_sb_is h z1, ty_sb_is h z2, z3, z4, z5, ty_sbv_isK z6, ty_sbv_ok h z7⟩
  · exact Or.inr ⟨hg, z.tr rfl (fun y hy => ty_sb_is h hy) (fun y hy => ty_sb_is h hy) (fun v' hv' => ⟨ty_sb th v', by show ty_sbv th q.2.2.2 = _; rw [hv']; rfl, fun y hy => ty_sb_is h hy⟩)⟩
/-- what is known behind a call that changes some -/
noncomputable def ty_hits (ms : ty_M) (k : Nat) : Bool := ex_any (fun p => Nat.beq p.1 k) ms
noncomputable def ty_kst (ms : ty_M) (q : ty_Q) : Bool := bif ty_isG q.1 then ty_every (fun p => !(ty_hits ms p.1)) (ty_wc q.1) else !(ty_hits ms q.1) || (match q.2.2.1 with
  | (.ofNat i, []) => !(ty_al ms q.1 (some i))
  | _ => false)
noncomputable def ty_kfm (ms : ty_M) (K : ty_K) : ty_K := List.rec (motive := fun _ => ty_K) [] (fun q _ ih => bif ty_kst ms q then q :: ih else ih) K
theorem ty_kfm_m {ms : ty_M} {q : ty_Q} : ∀ {K : ty_K}, q ∈ ty_kfm ms K → q ∈ K ∧ ty_kst ms q = true
  | [], h => by cases h
  | r :: K, h => by
    rcases ex_bif (P := fun z => q ∈ z) (show q ∈ (bif ty_kst ms r then r :: ty_kfm ms K else ty_kfm ms K) from h) with ⟨h1, h2⟩ | ⟨h1, h2⟩
    · rcases List.mem_cons.mp h2 with rfl | h2
      · exact ⟨List.mem_cons_self, h1⟩
      · exact ⟨List.mem_cons_of_mem _ (ty_kfm_m h2).1, (ty_kfm_m h2).2⟩
    · exact ⟨List.mem_cons_of_mem _ (ty_kfm_m h2).1, (ty_kfm_m h2).2⟩
theorem ty_hits_f {ms : ty_M} {k : Nat} (h : ty_hits ms k = false) (i : Nat) : ty_al ms k (some i) = false := by
  cases hb : ty_al ms k (some i) with
  | false => rfl
  | true =>
    obtain ⟨q, h1, h2⟩ := ty_any_t hb
    have := ty_any_i (f := fun p : Nat × Option Nat => Nat.beq p.1 k) h1 (ex_and h2).1
    rw [show ex_any (fun p : Nat × Option Nat => Nat.beq p.1 k) ms = ty_hits ms k from rfl, h] at this
    cases this
theorem ty_not_t {z : Bool} (h : (!z) = true) : z = false := by cases z with
  | false => rfl
  | true => cases h
theorem ty_Kr.call {tys : List (ClassId × FieldType)} {ms : ty_M} {K : ty_K} (hK : ty_Kr b sa m ρ ws K) (hth : ty_th tys ws) (hf : ty_frm ms ws ws') (hx : ex_xt ws ws') : ty_Kr b sa m ρ ws' (ty_kfm ms K) := fun q hq => by
  obtain ⟨hq, hs⟩ := ty_kfm_m hq
  rcases hK q hq with ⟨hg, j, i, a, ev, x, z1, z2, z3, z4, z5, z6, z7⟩ | ⟨hg, z⟩
  · refine Or.inl ⟨hg, ?_⟩
    obtain ⟨ev', y1, y2⟩ := hf j q.1 z3 a ev z4
    refine ⟨j, i, a, ev', x, z1, z2, z3, y1, ?_, z6, z7.mono (fun _ _ => rfl) (Nat.le_refl _) hx⟩
    rw [y2 i, z5]
    unfold ty_kst at hs
    rw [hg] at hs
    rcases Bool.or_eq_true _ _ |>.mp hs with hs | hs
    · exact ty_hits_f (ty_not_t hs) i
    · split at hs
      · rename_i i' hi'
        rw [hi'] at z2
        have := z2.2
        rw [show ((Int.ofNat i', []) : ty_t) = ty_k (i' : Int) from rfl, ty_k_ev] at this
        have : i' = i := by omega
        subst this
        exact ty_not_t hs
      · cases hs
  · refine Or.inr ⟨hg, z.cg (fun p hp i => ?_)⟩
    unfold ty_kst at hs
    rw [hg] at hs
    have hh := ty_not_t (ty_every_t (show ty_every (fun p : Nat × Nat => !(ty_hits ms p.1)) (ty_wc q.1) = true from hs) p hp)
    have hk := ty_wc_kl q.1 p hp
    obtain ⟨a, ev, c, w1, -, -⟩ := hth p.2 p.1 hk
    obtain ⟨ev', y1, y2⟩ := hf p.2 p.1 hk a ev w1
    unfold ty_ia
    rw [w1, y1]
    dsimp only
    rw [y2 i (ty_hits_f hh i)]
end TYT
/-- what a contract asks of cells is looked up ahead -/
noncomputable def ty_fe (k i : Nat) : Option ty_F := match ex_nth ty_ct k with
  | some (.inl o) => ex_nth o.2 i
  | some (.inr o) => bif Nat.blt i o.2.1 then some o.2.2 else none
  | none => none
noncomputable def ty_en1 (e : ty_E) (K : ty_K) (q : ty_Q) : ty_E × ty_K := match q.2.1, q.2.2.1 with
  | (.ofNat j, []), (.ofNat i, []) => (match ex_nth ty_kl j, ty_fe q.1 i with
    | some k, some f => bif Nat.beq k q.1 then (match ty_rd e K q.1 (ty_k (j : Int)) (ty_k (i : Int)) f true with
      | some r => (r.1, r.2.1)
      | none => (e, K)) else (e, K)
    | _, _ => (e, K))
  | _, _ => (e, K)
noncomputable def ty_ens (l : ty_K) : ty_E → ty_K → ty_E × ty_K := List.rec (motive := fun _ => ty_E → ty_K → ty_E × ty_K) (fun e K => (e, K)) (fun q _ ih e K => match ty_en1 e K q with
  | (e', K') => ih e' K') l
section TYU
variable {n m : Nat} {th : ty_H} {ρ σ : Nat → Int} {b : Nat} {sa : Nat → Nat} {ws ws' : va_W} {tys : List (ClassId × FieldType)}
theorem ty_en1_ok {e : ty_E} {K : ty_K} (q : ty_Q) (he : ty_er ρ e) (hK : ty_Kr b sa e.1 ρ ws K) (ht : ty_th tys ws) : ∃ ρ', ty_ag e.1 ρ ρ' ∧ ty_er ρ' (ty_en1 e K q).1 ∧ e.1 ≤ (ty_en1 e K q).1.1 ∧ ty_Kr b sa (ty_en1 e K q).1.1 ρ' ws (ty_en1 e K q).2 := by
  have triv : ∃ ρ', ty_ag e.1 ρ ρ' ∧ ty_er ρ' (e, K).1 ∧ e.1 ≤ (e, K).1.1 ∧ ty_Kr b sa (e, K).1.1 ρ' ws (e, K).2 := ⟨ρ, fun _ _ => rfl, he, Nat.le_refl _, hK⟩
  unfold ty_en1
  split
  · rename_i j i hj hi
    split
    · rename_i k f hk hf
      cases hb : Nat.beq k q.1 with
      | false => exact triv
      | true =>
        have hb := ex_beq hb
        subst hb
        rw [ex_nth_get] at hk
        obtain ⟨a, ev, c, w1, w2, w3⟩ := ht j q.1 hk
        have hx : ∃ x, ty_sl ev i = some x ∧ ty_fo ws f x := by
          unfold ty_fe at hf
          split at hf
          · rename_i o ho
            obtain ⟨-, vs, rfl, y⟩ := ht.obj hk w1 (ci := o.1) (fs := o.2) ho
            rw [ex_nth_get] at hf
            exact y i f hf
          · rename_i o ho
            obtain ⟨hlt, hf⟩ := ex_bifs hf
            cases hf
            obtain ⟨-, cA, ar, rfl, y1, y2, y3, y4, y5⟩ := ht.arr hk w1 (t := o.1) (N := o.2.1) (f := o.2.2) ho
            have hlt : i < o.2.1 := Nat.le_of_ble_eq_true hlt
            refine ⟨ex_ag ar i, ?_, y5 i hlt⟩
            show (if i < ar.1 then some (ex_ag ar i) else none) = _
            rw [if_pos (by omega)]
          · cases hf
        obtain ⟨x, x1, x2⟩ := hx
        show ∃ ρ', ty_ag e.1 ρ ρ' ∧ ty_er ρ' (match ty_rd e K q.1 (ty_k (j : Int)) (ty_k (i : Int)) f true with
          | some r => (r.1, r.2.1)
          | none => (e, K)).1 ∧ _
        cases hr : ty_rd e K q.1 (ty_k (j : Int)) (ty_k (i : Int)) f true with
        | none => exact triv
        | some r =>
          obtain ⟨e', K', v⟩ := r
          obtain ⟨ρ', a1, a2, a3, a4, -⟩ := ty_rd_ok he hK (ty_is_k _ _ _) (ty_is_k _ _ _) hk w1 x1 x2 hr
          exact ⟨ρ', a1, a2, a3, a4⟩
    · exact triv
  · exact triv
theorem ty_ens_ok : ∀ (l : ty_K) {e : ty_E} {K : ty_K} {ρ : Nat → Int}, ty_er ρ e → ty_Kr b sa e.1 ρ ws K → ty_th tys ws → ∃ ρ', ty_ag e.1 ρ ρ' ∧ ty_er ρ' (ty_ens l e K).1 ∧ e.1 ≤ (ty_ens l e K).1.1 ∧ ty_Kr b sa (ty_ens l e K).1.1 ρ' ws (ty_ens l e K).2
  | [], e, K, ρ, he, hK, _ => ⟨ρ, fun _ _ => rfl, he, Nat.le_refl _, hK⟩
  | q :: l, e, K, ρ, he, hK, ht => by
    obtain ⟨ρ1, a1, a2, a3, a4⟩ := ty_en1_ok q he hK ht
    obtain ⟨ρ2, b1, b2, b3, b4⟩ := ty_ens_ok l a2 a4 ht
    exact ⟨ρ2, a1.tr b1 a3, b2, Nat.le_trans a3 b3, b4⟩
/-- new names behind a call -/
noncomputable def ty_pfr (v : List (Nat × Int × Int)) (ns : List Nat) : ty_E → ty_H → ty_E × ty_H := List.rec (motive := fun _ => ty_E → ty_H → ty_E × ty_H) (fun e th => (e, th)) (fun i _ ih e th => ih (ty_fr e (ty_iv v i).1 (ty_iv v i).2 []) ((i, ty_s e.1) :: th)) ns
theorem ty_pfr_ok {v : List (Nat × Int × Int)} (hb : ty_bd σ v) : ∀ (k n : Nat) {e : ty_E} {th : ty_H} {ρ : Nat → Int}, ty_er ρ e → ty_tq n th e.1 ρ σ → ∃ ρ', ty_ag e.1 ρ ρ' ∧ ty_er ρ' (ty_pfr v (ex_range k n) e th).1 ∧ e.1 ≤ (ty_pfr v (ex_range k n) e th).1.1 ∧ ty_tq (n + k) (ty_pfr v (ex_range k n) e th).2 (ty_pfr v (ex_range k n) e th).1.1 ρ' σ
  | 0, n, e, th, ρ, he, ht => ⟨ρ, fun _ _ => rfl, he, Nat.le_refl _, ht⟩
  | k + 1, n, e, th, ρ, he, ht => by
    obtain ⟨h1, h2⟩ := ty_fr_ok he (hb n).1 (hb n).2 (cs := []) (fun c hc => by cases hc)
    have ha := ty_up_ag ρ e.1 (σ n)
    have ht' : ty_tq (n + 1) ((n, ty_s e.1) :: th) (ty_fr e (ty_iv v n).1 (ty_iv v n).2 []).1 (ty_up ρ e.1 (σ n)) σ := fun i hi => by
      rw [h2]
      unfold ty_tm
      rcases ex_bif (P := fun z => z = ex_lk ((n, ty_s e.1) :: th) i) (show (bif Nat.beq n i then some (ty_s e.1) else ex_lk th i) = ex_lk ((n, ty_s e.1) :: th) i from rfl) with ⟨g1, g2⟩ | ⟨g1, g2⟩
      · rw [← g2]
        have := ex_beq g1
        subst this
        exact ⟨ty_s_sc (Nat.lt_succ_self _), by rw [ty_s_ev, ty_up_at]⟩
      · rw [← g2]
        have g1 := ex_bne g1
        obtain ⟨k1, k2⟩ := ht i (by omega)
        exact ⟨k1.mono (Nat.le_succ _), (ty_ev_ag ha k1).trans k2⟩
    obtain ⟨ρ', b1, b2, b3, b4⟩ := ty_pfr_ok hb k (n + 1) h1 ht'
    refine ⟨ρ', ha.tr b1 (by rw [h2]; exact Nat.le_succ _), b2, ?_, ?_⟩
    · have : e.1 + 1 ≤ _ := h2 ▸ b3
      exact Nat.le_trans (Nat.le_succ _) this
    · rw [show n + (k + 1) = n + 1 + k by omega]
      exact b4
noncomputable def ty_rfs (cs : List ty_t) : ty_E → Option ty_E := List.rec (motive := fun _ => ty_E → Option ty_E) (fun e => some e) (fun c _ ih e => match ty_rf e c with
  | none => none
  | some e' => ih e') cs
theorem ty_rfs_ok : ∀ (cs : List ty_t) {e : ty_E}, ty_er ρ e → (∀ c ∈ cs, ty_sc e.1 c ∧ ty_ev ρ c ≤ 0) → ∃ e', ty_rfs cs e = some e' ∧ ty_er ρ e' ∧ e'.1 = e.1
  | [], e, he, _ => ⟨e, rfl, he, rfl⟩
  | c :: cs, e, he, h => by
    obtain ⟨e1, a1, a2, a3⟩ := ty_rf_ok he (h c List.mem_cons_self).1 (h c List.mem_cons_self).2
    obtain ⟨e2, b1, b2, b3⟩ := ty_rfs_ok cs a2 (fun z hz => by rw [a3]; exact h z (List.mem_cons_of_mem _ hz))
    refine ⟨e2, ?_, b2, b3.trans a3⟩
    show (match ty_rf e c with
      | none => none
      | some e' => ty_rfs cs e') = some e2
    rw [a1]
    exact b1
end TYU
