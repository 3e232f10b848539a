/-! whole rows: what follows from what is known of them -/
noncomputable def ty_kt (e : ty_E) (K : ty_K) (kc : Nat × Nat) (sl : ty_t) : Option ty_t := match ty_kf e K kc.1 (ty_k (kc.2 : Int)) sl with
  | some (.inl (.inl t)) => some t
  | _ => none
/-- letters 1, the sign of not 0, others 2 -/
noncomputable def ty_cls (e : ty_E) (K : ty_K) (v : ty_t) : Option Nat := bif ty_le 97 (ty_lo e v) && ty_le (ty_hi e v) 122 then some 1 else bif ty_le 126 (ty_lo e v) && ty_le (ty_hi e v) 126 then some 0 else bif ty_le (ty_hi e v) 96 || ((ty_le 123 (ty_lo e v) && ty_le (ty_hi e v) 125) || ty_le 127 (ty_lo e v)) then some 2 else bif ex_any (fun q => Nat.beq q.1 1007 && ty_sm e q.2.1 v) K then some 2 else none
def ty_clP (k : Nat) (z : Int) : Prop := (k = 1 ∧ 97 ≤ z ∧ z ≤ 122) ∨ (k = 0 ∧ z = 126) ∨ (k = 2 ∧ ¬ (97 ≤ z ∧ z ≤ 122) ∧ z ≠ 126)
def ty_dk (k : Nat) : Int := bif Nat.beq k 1 then 1 else bif Nat.beq k 0 then 0 else -1
/-- 3 and 7 are counted -/
noncomputable def ty_cw (e : ty_E) (x : ty_t) : Option Nat := bif (ty_le 3 (ty_lo e x) && ty_le (ty_hi e x) 3) || (ty_le 7 (ty_lo e x) && ty_le (ty_hi e x) 7) then some 1 else bif ty_le (ty_hi e x) 2 || ((ty_le 4 (ty_lo e x) && ty_le (ty_hi e x) 6) || ty_le 8 (ty_lo e x)) then some 0 else none
noncomputable def ty_put (e : ty_E) (K : ty_K) (q : ty_Q) : ty_K := bif ex_any (fun r => Nat.beq r.1 q.1 && (ty_sm e q.2.1 r.2.1 && ty_sm e q.2.2.1 r.2.2.1)) K then K else q :: K
noncomputable def ty_cs1 (e : ty_E) (t : ty_t) : ty_E := bif ty_ent e t then e else (match ty_rf e t with
  | some e' => e'
  | none => e)
abbrev ty_X : Type := ty_E × ty_K
/-- counted ones are fewer than all, as the first is an 8 -/
noncomputable def ty_s1 (q : ty_Q) (w : ty_t) (x : ty_X) : ty_X := (bif ty_ent x.1 (ty_add (ty_k 1) q.2.2.1 (-1)) && (match ty_kt x.1 x.2 ty_cW (ty_k 0) with
  | some t => ty_le 8 (ty_lo x.1 t)
  | none => false) then ty_cs1 (ty_cs1 x.1 (ty_add (ty_k 0) w (-1))) (ty_pl (ty_add w q.2.2.1 (-1)) 1) else ty_cs1 x.1 (ty_add (ty_k 0) w (-1)), x.2)
noncomputable def ty_s2 (q : ty_Q) (w : ty_t) (x : ty_X) : ty_X := match ty_kt x.1 x.2 ty_cW q.2.2.1 with
  | some t => (match ty_cw x.1 t with
    | some k => (x.1, ty_put x.1 x.2 (1000, q.2.1, ty_pl q.2.2.1 1, ty_i (ty_pl w (k : Int))))
    | none => x)
  | none => x
noncomputable def ty_s3 (q : ty_Q) (w : ty_t) (x : ty_X) : ty_X := bif ty_ent x.1 (ty_add (ty_k 1) q.2.2.1 (-1)) then (match ty_kt x.1 x.2 ty_cW (ty_pl q.2.2.1 (-1)) with
  | some t => (match ty_cw x.1 t with
    | some k => (x.1, ty_put x.1 x.2 (1000, q.2.1, ty_pl q.2.2.1 (-1), ty_i (ty_pl w (-(k : Int)))))
    | none => x)
  | none => x) else x
/-- heights -/
noncomputable def ty_s4 (q : ty_Q) (w : ty_t) (x : ty_X) : ty_X := match ty_kt x.1 x.2 ty_cC q.2.2.1 with
  | some t => (match ty_cls x.1 x.2 t with
    | some k => bif ty_ent x.1 (ty_add (ty_k (1 - ty_dk k)) w (-1)) then (x.1, ty_put x.1 x.2 (1001, q.2.1, ty_pl q.2.2.1 1, ty_i (ty_pl w (ty_dk k)))) else x
    | none => x)
  | none => x
noncomputable def ty_s5 (q : ty_Q) (w : ty_t) (x : ty_X) : ty_X := bif ex_any (fun r => Nat.beq r.1 1004 && (ty_sm x.1 r.2.1 q.2.1 && ty_ent x.1 (ty_pl (ty_add q.2.2.1 r.2.2.1 (-1)) 1))) x.2 then (match ty_kt x.1 x.2 ty_cC q.2.2.1 with
  | some t => (match ty_cls x.1 x.2 t with
    | some k => (bif Nat.beq k 1 then ty_cs1 (ty_cs1 x.1 (ty_pl w (-29))) (ty_add (ty_k 0) w (-1)) else bif Nat.beq k 0 then ty_cs1 x.1 (ty_add (ty_k 1) w (-1)) else ty_cs1 x.1 (ty_add (ty_k 2) w (-1)), x.2)
    | none => x)
  | none => x) else x
/-- letters -/
noncomputable def ty_s6 (q : ty_Q) (w : ty_t) (x : ty_X) : ty_X := match ty_kt x.1 x.2 ty_cC q.2.2.1 with
  | some t => (match ty_cls x.1 x.2 t with
    | some k => (x.1, ty_put x.1 x.2 (1002, q.2.1, ty_pl q.2.2.1 1, ty_i (ty_pl w (bif Nat.beq k 1 then 1 else 0))))
    | none => x)
  | none => x
/-- signs -/
noncomputable def ty_sgb (e : ty_E) (K : ty_K) (j x s : ty_t) : Bool := (ty_le (ty_hi e x) 7 || ty_ent e j) && (ty_le 7 (ty_lo e x) || ((ty_le 3 (ty_lo e x) && ty_le (ty_hi e x) 3 && (match ty_cls e K s with
  | some k => Nat.beq k 0
  | none => false)) || ((ty_le (ty_hi e x) 2 || (ty_le 4 (ty_lo e x) && ty_le (ty_hi e x) 6)) && (match ty_cls e K s with
  | some k => Nat.beq k 2
  | none => false))))
noncomputable def ty_s7 (q : ty_Q) (x : ty_X) : ty_X := match ty_kt x.1 x.2 ty_cW q.2.2.1, ty_kt x.1 x.2 ty_cS q.2.2.1 with
  | some t, some s => bif ty_sgb x.1 x.2 q.2.2.1 t s then (x.1, ty_put x.1 x.2 (1006, q.2.1, ty_pl q.2.2.1 1, q.2.2.2)) else x
  | _, _ => x
noncomputable def ty_s8 (q : ty_Q) (s : ty_t) (x : ty_X) : ty_X := bif ty_sm x.1 q.2.1 (ty_k (ty_cS.2 : Int)) && ex_any (fun r => Nat.beq r.1 1006 && ty_ent x.1 (ty_pl (ty_add q.2.2.1 r.2.2.1 (-1)) 1)) x.2 then (match ty_kt x.1 x.2 ty_cW q.2.2.1 with
  | some t => bif ty_le 3 (ty_lo x.1 t) && ty_le (ty_hi x.1 t) 3 then (ty_cs1 (ty_cs1 x.1 (ty_pl s (-126))) (ty_add (ty_k 126) s (-1)), x.2) else bif ty_le (ty_hi x.1 t) 2 || (ty_le 4 (ty_lo x.1 t) && ty_le (ty_hi x.1 t) 6) then (x.1, ty_put x.1 x.2 (1007, s, ty_k 0, ty_z)) else x
  | none => x) else x
/-- what is no 8 is not the first -/
noncomputable def ty_s9 (q : ty_Q) (t : ty_t) (x : ty_X) : ty_X := bif ty_sm x.1 q.2.1 (ty_k (ty_cW.2 : Int)) && ty_le (ty_hi x.1 t) 7 && (match ty_kt x.1 x.2 ty_cW (ty_k 0) with
  | some u => ty_le 8 (ty_lo x.1 u)
  | none => false) then (ty_cs1 x.1 (ty_add (ty_k 1) q.2.2.1 (-1)), x.2) else x
/-- an 8 is the first -/
noncomputable def ty_s16 (q : ty_Q) (t : ty_t) (x : ty_X) : ty_X := bif ty_sm x.1 q.2.1 (ty_k (ty_cW.2 : Int)) && ty_le 8 (ty_lo x.1 t) && ex_any (fun r => Nat.beq r.1 1006 && ty_ent x.1 (ty_pl (ty_add q.2.2.1 r.2.2.1 (-1)) 1)) x.2 then (ty_cs1 x.1 q.2.2.1, x.2) else x
/-- rules: what is told and good, what is not told, what is good -/
def ty_bit (t r : Nat) : Bool := Nat.beq (t / 2 ^ r % 2) 1
noncomputable def ty_s10 (q : ty_Q) (w : ty_t) (x : ty_X) : ty_X := match ty_cst x.1 q.2.2.1 with
  | some (.ofNat r) => (match ty_kt x.1 x.2 ty_cT q.2.1, ty_kt x.1 x.2 ty_cF (ty_add q.2.2.1 q.2.1 2), ty_kt x.1 x.2 ty_cO (ty_add q.2.2.1 q.2.1 2) with
    | some t, some F, some T => (match ty_cst x.1 t with
      | some (.ofNat c) => bif ty_bit c r then (ty_cs1 (ty_cs1 x.1 (ty_add (ty_add (ty_k 0) q.2.1 560) F (-1))) (ty_add T w (-1)), ty_put x.1 x.2 (1004, F, T, ty_z)) else x
      | _ => x)
    | _, _, _ => x)
  | _ => x
noncomputable def ty_s11 (r : Nat) (q : ty_Q) (t : ty_t) (x : ty_X) : ty_X := bif ty_sm x.1 q.2.1 (ty_k (ty_cT.2 : Int)) then (match ty_cst x.1 t with
  | some (.ofNat c) => bif ty_bit c r then x else (x.1, ty_put x.1 x.2 (1003, q.2.2.1, ty_k (r : Int), ty_i (ty_k 0)))
  | _ => x) else x
noncomputable def ty_okS (x : ty_X) (F T : ty_t) : Bool := ex_any (fun r => Nat.beq r.1 1004 && (ty_sm x.1 r.2.1 F && ty_sm x.1 r.2.2.1 T)) x.2 || (ex_any (fun r => Nat.beq r.1 1001 && (ty_sm x.1 r.2.1 F && ty_sm x.1 r.2.2.1 T)) x.2 && ex_any (fun r => Nat.beq r.1 1002 && (ty_sm x.1 r.2.1 F && (ty_sm x.1 r.2.2.1 T && (match r.2.2.2 with
  | .inl (.inl z) => ty_ent x.1 (ty_pl z (-30))
  | _ => false)))) x.2)
noncomputable def ty_s12 (q : ty_Q) (T : ty_t) (x : ty_X) : ty_X := bif ty_sm x.1 q.2.1 (ty_k (ty_cO.2 : Int)) then (match ty_cst x.1 q.2.2.1, ty_kt x.1 x.2 ty_cF q.2.2.1 with
  | some (.ofNat s), some F => bif ty_okS x F T && ty_ent x.1 (ty_add (ty_k (560 * (s / 2 : Nat))) F (-1)) then (x.1, ty_put x.1 x.2 (1003, ty_k ((s / 2 : Nat) : Int), ty_k ((s % 2 : Nat) : Int), ty_i T)) else x
  | _, _ => x) else x
noncomputable def ty_s13 (q : ty_Q) (x : ty_X) : ty_X := bif ty_ent x.1 (ty_add (ty_k 1) q.2.2.1 (-1)) then (match ty_kt x.1 x.2 ty_cW (ty_pl q.2.2.1 (-1)) with
  | some _ => (x.1, ty_put x.1 x.2 (1006, q.2.1, ty_pl q.2.2.1 (-1), q.2.2.2))
  | none => x) else x
noncomputable def ty_s14 (F : ty_t) (x : ty_X) : ty_X := bif ty_ent x.1 (ty_add (ty_k 0) F (-1)) then (x.1, ty_put x.1 (ty_put x.1 x.2 (1001, F, F, ty_i (ty_k 0))) (1002, F, F, ty_i (ty_k 0))) else x
noncomputable def ty_s15 (q : ty_Q) (x : ty_X) : ty_X := match ty_cst x.1 q.2.2.1 with
  | some (.ofNat 0) => (x.1, ty_put x.1 (ty_put x.1 x.2 (1000, ty_k 0, ty_k 0, ty_i (ty_k 0))) (1006, ty_k 0, ty_k 0, ty_z))
  | _ => x
noncomputable def ty_sq (q : ty_Q) (x : ty_X) : ty_X := match q.2.2.2 with
  | .inl (.inl w) => bif Nat.beq q.1 1000 then ty_s3 q w (ty_s2 q w (ty_s1 q w x)) else bif Nat.beq q.1 1001 then ty_s4 q w (ty_s5 q w x) else bif Nat.beq q.1 1002 then ty_s6 q w x else bif Nat.beq q.1 1003 then ty_s10 q w x else bif Nat.beq q.1 ty_cW.1 then ty_s15 q (ty_s16 q w (ty_s9 q w x)) else bif Nat.beq q.1 ty_cF.1 then ty_s14 w x else bif Nat.beq q.1 ty_cS.1 then ty_s8 q w x else bif Nat.beq q.1 ty_cT.1 then ty_s11 1 q w (ty_s11 0 q w x) else bif Nat.beq q.1 ty_cO.1 then ty_s12 q w x else x
  | _ => bif Nat.beq q.1 1006 then ty_s13 q (ty_s7 q x) else x
section TYG
variable {b : Nat} {sa : Nat → Nat} {n : Nat} {ρ : Nat → Int} {ws : va_W}
def ty_SO (b : Nat) (sa : Nat → Nat) (n : Nat) (ρ : Nat → Int) (ws : va_W) (x : ty_X) : Prop := ty_er ρ x.1 ∧ x.1.1 = n ∧ ty_Kr b sa n ρ ws x.2
theorem ty_cs1_ok {e : ty_E} (he : ty_er ρ e) {t : ty_t} (hs : ty_sc e.1 t) (ht : ty_ev ρ t ≤ 0) : ty_er ρ (ty_cs1 e t) ∧ (ty_cs1 e t).1 = e.1 := by
  unfold ty_cs1
  cases ty_ent e t with
  | true => exact ⟨he, rfl⟩
  | false =>
    obtain ⟨e', h1, h2, h3⟩ := ty_rf_ok he hs ht
    show ty_er ρ (match ty_rf e t with
      | some e' => e'
      | none => e) ∧ (match ty_rf e t with
      | some e' => e'
      | none => e).1 = e.1
    rw [h1]
    exact ⟨h2, h3⟩
theorem ty_SO.cs {x : ty_X} (h : ty_SO b sa n ρ ws x) {t : ty_t} (hs : ty_sc n t) (ht : ty_ev ρ t ≤ 0) : ty_SO b sa n ρ ws (ty_cs1 x.1 t, x.2) := by
  obtain ⟨h1, h2⟩ := ty_cs1_ok h.1 (by rw [h.2.1]; exact hs) ht
  exact ⟨h1, h2.trans h.2.1, h.2.2⟩
theorem ty_SO.put {x : ty_X} (h : ty_SO b sa n ρ ws x) {q : ty_Q} (hq : ty_k1 b sa n ρ ws q) : ty_SO b sa n ρ ws (x.1, ty_put x.1 x.2 q) := by
  refine ⟨h.1, h.2.1, ?_⟩
  show ty_Kr b sa n ρ ws (bif _ then x.2 else q :: x.2)
  cases ex_any (fun r => Nat.beq r.1 q.1 && (ty_sm x.1 q.2.1 r.2.1 && ty_sm x.1 q.2.2.1 r.2.2.1)) x.2 with
  | true => exact h.2.2
  | false =>
    intro r hr
    rcases List.mem_cons.mp hr with rfl | hr
    · exact hq
    · exact h.2.2 r hr
theorem ty_SO.put1 {x : ty_X} (h : ty_SO b sa n ρ ws x) {q : ty_Q} (hq : ty_isG q.1 = true ∧ ty_g1 n ρ ws q) : ty_SO b sa n ρ ws (x.1, ty_put x.1 x.2 q) := h.put (Or.inr ⟨hq.1, Or.inl hq.2⟩)
theorem ty_SO.put2 {x : ty_X} (h : ty_SO b sa n ρ ws x) {q : ty_Q} (hq : ty_isG q.1 = true ∧ ty_g2 n ρ ws q) : ty_SO b sa n ρ ws (x.1, ty_put x.1 x.2 q) := h.put (Or.inr ⟨hq.1, Or.inr (Or.inl hq.2)⟩)
theorem ty_kt_ok {x : ty_X} (h : ty_SO b sa n ρ ws x) {kc : Nat × Nat} (hk : ty_kl[kc.2]? = some kc.1) {sl t : ty_t} (ht : ty_kt x.1 x.2 kc sl = some t) {i : Nat} (hi : ty_is n ρ sl (i : Int)) : ty_is n ρ t (ty_ia ws kc.2 i) := by
  unfold ty_kt at ht
  split at ht
  · rename_i u hu
    cases ht
    obtain ⟨q, q1, q2, q3, q4, q5⟩ := ty_kf_ok hu
    obtain ⟨h1, h2, h3⟩ := h
    subst h2
    rcases h3 q q1 with ⟨hg, j, i', a, ev, y, z1, z2, z3, z4, z5, z6, z7⟩ | ⟨hg, -⟩
    · have e1 := ty_sm_ok h1 q4 z1 (ty_is_k _ _ _)
      have e2 := ty_sm_ok h1 q3 z2 hi
      have e1 : j = kc.2 := by omega
      have e2 : i' = i := by omega
      subst e1
      subst e2
      rw [q5] at z7
      obtain ⟨w, rfl, hw⟩ := z7
      unfold ty_ia
      rw [z4]
      dsimp only
      rw [z5]
      exact hw
    · rw [q2] at hg
      rw [ty_kl_nG hk] at hg
      cases hg
  · cases ht
theorem ty_lh {e : ty_E} (he : ty_er ρ e) {t : ty_t} {z : Int} (ht : ty_ev ρ t = z) : ty_lo e t ≤ z ∧ z ≤ ty_hi e t := by
  rw [← ht]
  exact ⟨ty_lo_ok he.1 t, ty_hi_ok he.1 t⟩
theorem ty_cls_ok {x : ty_X} (h : ty_SO b sa n ρ ws x) {v : ty_t} {z : Int} (hv : ty_is n ρ v z) {k : Nat} (hc : ty_cls x.1 x.2 v = some k) : ty_clP k z := by
  obtain ⟨h1, h2, h3⟩ := h
  subst h2
  obtain ⟨l1, l2⟩ := ty_lh h1 hv.2
  rcases ex_bif (P := fun w => w = some k) hc with ⟨c1, c2⟩ | ⟨-, hc⟩
  · cases c2
    obtain ⟨c1, c3⟩ := ex_and c1
    have c1 := ty_le_t c1
    have c3 := ty_le_t c3
    exact Or.inl ⟨rfl, by omega, by omega⟩
  rcases ex_bif (P := fun w => w = some k) hc with ⟨c1, c2⟩ | ⟨-, hc⟩
  · cases c2
    obtain ⟨c1, c3⟩ := ex_and c1
    have c1 := ty_le_t c1
    have c3 := ty_le_t c3
    exact Or.inr (Or.inl ⟨rfl, by omega⟩)
  rcases ex_bif (P := fun w => w = some k) hc with ⟨c1, c2⟩ | ⟨-, hc⟩
  · cases c2
    refine Or.inr (Or.inr ⟨rfl, ?_⟩)
    rcases Bool.or_eq_true _ _ |>.mp c1 with c1 | c1
    · have c1 := ty_le_t c1
      omega
    rcases Bool.or_eq_true _ _ |>.mp c1 with c1 | c1
    · obtain ⟨c1, c3⟩ := ex_and c1
      have c1 := ty_le_t c1
      have c3 := ty_le_t c3
      omega
    · have c1 := ty_le_t c1
      omega
  rcases ex_bif (P := fun w => w = some k) hc with ⟨c1, c2⟩ | ⟨-, hc⟩
  · cases c2
    obtain ⟨q, q1, q2⟩ := ty_any_t c1
    obtain ⟨q2, q3⟩ := ex_and q2
    have q2 := ex_beq q2
    rcases h3 q q1 with ⟨hg, -⟩ | ⟨-, hg⟩
    · rw [q2] at hg; cases hg
    · rcases hg with hg | hg
      case inr => exact absurd (show 1008 ≤ q.1 from hg.elim ty_g2_1 (fun h => by rw [h.1]; decide)) (by omega)
      rcases hg with ⟨g, -⟩ | ⟨g, -⟩ | ⟨g, -⟩ | ⟨g, -⟩ | ⟨g, -⟩ | ⟨g, -⟩ | ⟨-, z', g1, g2⟩
      · omega
      · omega
      · omega
      · omega
      · omega
      · omega
      · have := ty_sm_ok h1 q3 g1 hv
        subst this
        exact Or.inr (Or.inr ⟨rfl, g2⟩)
  · cases hc
theorem ty_dk_ok {k : Nat} {z : Int} (h : ty_clP k z) : ty_dl z = ty_dk k := by
  unfold ty_dl
  rcases h with ⟨rfl, h1, h2⟩ | ⟨rfl, h1⟩ | ⟨rfl, h1, h2⟩
  · rw [if_pos ⟨h1, h2⟩]; rfl
  · rw [if_neg (by omega), if_pos h1]; rfl
  · rw [if_neg h1, if_neg h2]; rfl
theorem ty_cw_ok {e : ty_E} (he : ty_er ρ e) {x : ty_t} {z : Int} (hx : ty_ev ρ x = z) {k : Nat} (hc : ty_cw e x = some k) : (if z = 3 ∨ z = 7 then 1 else 0) = k := by
  obtain ⟨l1, l2⟩ := ty_lh he hx
  rcases ex_bif (P := fun w => w = some k) hc with ⟨c1, c2⟩ | ⟨-, hc⟩
  · cases c2
    rw [if_pos]
    rcases Bool.or_eq_true _ _ |>.mp c1 with c1 | c1
    · obtain ⟨c1, c3⟩ := ex_and c1
      have c1 := ty_le_t c1
      have c3 := ty_le_t c3
      exact Or.inl (by omega)
    · obtain ⟨c1, c3⟩ := ex_and c1
      have c1 := ty_le_t c1
      have c3 := ty_le_t c3
      exact Or.inr (by omega)
  rcases ex_bif (P := fun w => w = some k) hc with ⟨c1, c2⟩ | ⟨-, hc⟩
  · cases c2
    rw [if_neg]
    rcases Bool.or_eq_true _ _ |>.mp c1 with c1 | c1
    · have c1 := ty_le_t c1
      omega
    rcases Bool.or_eq_true _ _ |>.mp c1 with c1 | c1
    · obtain ⟨c1, c3⟩ := ex_and c1
      have c1 := ty_le_t c1
      have c3 := ty_le_t c3
      omega
    · have c1 := ty_le_t c1
      omega
  · cases hc
theorem ty_cnt_le (f : Nat → Int) : ∀ i : Nat, ty_cnt f i ≤ i
  | 0 => Nat.le_refl _
  | i + 1 => by
    have := ty_cnt_le f i
    show ty_cnt f i + (if f i = 3 ∨ f i = 7 then 1 else 0) ≤ i + 1
    split <;> omega
theorem ty_cnt_lt {f : Nat → Int} (h : f 0 = 8) : ∀ i : Nat, 1 ≤ i → ty_cnt f i + 1 ≤ i
  | 0, h1 => by omega
  | 1, _ => by
    show 0 + (if f 0 = 3 ∨ f 0 = 7 then 1 else 0) + 1 ≤ 1
    rw [if_neg (by omega)]
    omega
  | i + 2, _ => by
    have := ty_cnt_lt h (i + 1) (by omega)
    show ty_cnt f (i + 1) + (if f (i + 1) = 3 ∨ f (i + 1) = 7 then 1 else 0) + 1 ≤ i + 2
    split <;> omega
theorem ty_htn_le (f : Nat → Int) (a : Nat) : ∀ m : Nat, ty_htn f a m ≤ (ty_ltn f a m : Int)
  | 0 => Int.le_refl _
  | m + 1 => by
    have := ty_htn_le f a m
    show ty_htn f a m + ty_dl (f (a + m)) ≤ ((ty_ltn f a m + (if 97 ≤ f (a + m) ∧ f (a + m) ≤ 122 then 1 else 0) : Nat) : Int)
    unfold ty_dl
    by_cases hc : 97 ≤ f (a + m) ∧ f (a + m) ≤ 122
    · rw [if_pos hc, if_pos hc]
      omega
    · rw [if_neg hc, if_neg hc]
      split <;> omega
theorem ty_ltn_mono (f : Nat → Int) (a m : Nat) : ∀ k : Nat, ty_ltn f a m ≤ ty_ltn f a (m + k)
  | 0 => Nat.le_refl _
  | k + 1 => by
    have := ty_ltn_mono f a m k
    show ty_ltn f a m ≤ ty_ltn f a (m + k) + _
    omega
theorem ty_sgh {q : ty_Q} (h : ty_k1 b sa n ρ ws q) (hg : ty_isG q.1 = true) (hl : q.1 < 1008) : ty_g1 n ρ ws q := by
  rcases h with ⟨z, -⟩ | ⟨-, z⟩
  · rw [hg] at z; cases z
  · rcases z with z | z
    · exact z
    · exact absurd (show 1008 ≤ q.1 from z.elim ty_g2_1 (fun h => by rw [h.1]; decide)) (by omega)
theorem ty_g1000 {q : ty_Q} (h : ty_k1 b sa n ρ ws q) (hq : q.1 = 1000) : ∃ (i : Nat) (v : ty_t), ty_is n ρ q.2.2.1 (i : Int) ∧ q.2.2.2 = ty_i v ∧ ty_is n ρ v (ty_cnt (ty_ia ws ty_cW.2) i : Int) := by
  rcases ty_sgh h (by rw [hq]; rfl) (by omega) with ⟨g, i, v, h1, h2, h3⟩ | ⟨g, -⟩ | ⟨g, -⟩ | ⟨g, -⟩ | ⟨g, -⟩ | ⟨g, -⟩ | ⟨g, -⟩
  · exact ⟨i, v, h1, h2, h3⟩
  all_goals omega
theorem ty_g1001 {q : ty_Q} (h : ty_k1 b sa n ρ ws q) (hq : q.1 = 1001) : ∃ (a m : Nat) (v : ty_t), ty_is n ρ q.2.1 (a : Int) ∧ ty_is n ρ q.2.2.1 ((a + m : Nat) : Int) ∧ q.2.2.2 = ty_i v ∧ ty_is n ρ v (ty_htn (ty_ia ws ty_cC.2) a m) ∧ ty_vl (ty_ia ws ty_cC.2) a m := by
  rcases ty_sgh h (by rw [hq]; rfl) (by omega) with ⟨g, -⟩ | ⟨-, g⟩ | ⟨g, -⟩ | ⟨g, -⟩ | ⟨g, -⟩ | ⟨g, -⟩ | ⟨g, -⟩
  · omega
  · exact g
  all_goals omega
theorem ty_g1002 {q : ty_Q} (h : ty_k1 b sa n ρ ws q) (hq : q.1 = 1002) : ∃ (a m : Nat) (v : ty_t) (z : Int), ty_is n ρ q.2.1 (a : Int) ∧ ty_is n ρ q.2.2.1 ((a + m : Nat) : Int) ∧ q.2.2.2 = ty_i v ∧ ty_is n ρ v z ∧ (ty_ltn (ty_ia ws ty_cC.2) a m : Int) ≤ z := by
  rcases ty_sgh h (by rw [hq]; rfl) (by omega) with ⟨g, -⟩ | ⟨g, -⟩ | ⟨-, g⟩ | ⟨g, -⟩ | ⟨g, -⟩ | ⟨g, -⟩ | ⟨g, -⟩
  · omega
  · omega
  · exact g
  all_goals omega
theorem ty_g1004 {q : ty_Q} (h : ty_k1 b sa n ρ ws q) (hq : q.1 = 1004) : ∃ a m : Nat, ty_is n ρ q.2.1 (a : Int) ∧ ty_is n ρ q.2.2.1 ((a + m : Nat) : Int) ∧ ty_vl (ty_ia ws ty_cC.2) a m ∧ ty_ltn (ty_ia ws ty_cC.2) a m ≤ 30 := by
  rcases ty_sgh h (by rw [hq]; rfl) (by omega) with ⟨g, -⟩ | ⟨g, -⟩ | ⟨g, -⟩ | ⟨g, -⟩ | ⟨-, g⟩ | ⟨g, -⟩ | ⟨g, -⟩
  · omega
  · omega
  · omega
  · omega
  · exact g
  all_goals omega
theorem ty_g1006 {q : ty_Q} (h : ty_k1 b sa n ρ ws q) (hq : q.1 = 1006) : ∃ i : Nat, ty_is n ρ q.2.2.1 (i : Int) ∧ ∀ j, j < i → ty_sg j (ty_ia ws ty_cW.2 j) (ty_ia ws ty_cS.2 j) := by
  rcases ty_sgh h (by rw [hq]; rfl) (by omega) with ⟨g, -⟩ | ⟨g, -⟩ | ⟨g, -⟩ | ⟨g, -⟩ | ⟨g, -⟩ | ⟨-, g⟩ | ⟨g, -⟩
  · omega
  · omega
  · omega
  · omega
  · omega
  · exact g
  · omega
theorem ty_wk : ty_kl[ty_cW.2]? = some ty_cW.1 ∧ ty_kl[ty_cS.2]? = some ty_cS.1 ∧ ty_kl[ty_cC.2]? = some ty_cC.1 ∧ ty_kl[ty_cT.2]? = some ty_cT.1 ∧ ty_kl[ty_cF.2]? = some ty_cF.1 ∧ ty_kl[ty_cO.2]? = some ty_cO.1 := by decide +kernel
/-- the first is an 8 -/
theorem ty_w0 {x : ty_X} (h : ty_SO b sa n ρ ws x) (hm : (match ty_kt x.1 x.2 ty_cW (ty_k 0) with
  | some t => ty_le 8 (ty_lo x.1 t)
  | none => false) = true) (hr : ∀ i, ty_ia ws ty_cW.2 i ≤ 8) : ty_ia ws ty_cW.2 0 = 8 := by
  split at hm
  · rename_i t ht
    have h1 := ty_kt_ok h ty_wk.1 ht (i := 0) (ty_is_k _ _ _)
    have h2 := (ty_lh h.1 h1.2).1
    have h3 := ty_le_t hm
    have h4 := hr 0
    omega
  · cases hm
theorem ty_s1_ok {x : ty_X} (h : ty_SO b sa n ρ ws x) (hr : ∀ i, ty_ia ws ty_cW.2 i ≤ 8) {q : ty_Q} (hq : ty_k1 b sa n ρ ws q) (h0 : q.1 = 1000) {w : ty_t} (hw : q.2.2.2 = ty_i w) : ty_SO b sa n ρ ws (ty_s1 q w x) := by
  obtain ⟨i, v, h1, h2, h3⟩ := ty_g1000 hq h0
  rw [hw] at h2
  injection h2 with h2
  injection h2 with h2
  subst h2
  have base := h.cs (t := ty_add (ty_k 0) w (-1)) (ty_add_sc ty_k_sc h3.1) (by rw [ty_sub_ev, ty_k_ev, h3.2]; omega)
  unfold ty_s1
  cases hb : (ty_ent x.1 (ty_add (ty_k 1) q.2.2.1 (-1)) && (match ty_kt x.1 x.2 ty_cW (ty_k 0) with
    | some t => ty_le 8 (ty_lo x.1 t)
    | none => false)) with
  | false => exact base
  | true =>
    obtain ⟨b1, b2⟩ := ex_and hb
    have b1 := ty_ent_ok h.1 b1
    rw [ty_sub_ev, ty_k_ev, h1.2] at b1
    have b3 := ty_cnt_lt (ty_w0 h b2 hr) i (by omega)
    exact base.cs (t := ty_pl (ty_add w q.2.2.1 (-1)) 1) (ty_pl_sc (ty_add_sc h3.1 h1.1)) (by rw [ty_pl_ev, ty_sub_ev, h3.2, h1.2]; omega)
theorem ty_s2_ok {x : ty_X} (h : ty_SO b sa n ρ ws x) {q : ty_Q} (hq : ty_k1 b sa n ρ ws q) (h0 : q.1 = 1000) {w : ty_t} (hw : q.2.2.2 = ty_i w) : ty_SO b sa n ρ ws (ty_s2 q w x) := by
  obtain ⟨i, v, h1, h2, h3⟩ := ty_g1000 hq h0
  rw [hw] at h2
  injection h2 with h2
  injection h2 with h2
  subst h2
  unfold ty_s2
  split
  · rename_i t ht
    split
    · rename_i k hk
      have g1 := ty_kt_ok h ty_wk.1 ht h1
      have g2 := ty_cw_ok h.1 g1.2 hk
      refine h.put1 (⟨rfl, Or.inl ⟨rfl, i + 1, _, ?_, rfl, ?_⟩⟩)
      · have := ty_is_pl h1 1
        exact ⟨this.1, this.2.trans (by omega)⟩
      · have := ty_is_pl h3 (k : Int)
        refine ⟨this.1, this.2.trans ?_⟩
        show (ty_cnt _ i : Int) + (k : Int) = ((ty_cnt (ty_ia ws ty_cW.2) i + (if ty_ia ws ty_cW.2 i = 3 ∨ ty_ia ws ty_cW.2 i = 7 then 1 else 0) : Nat) : Int)
        rw [g2]
        omega
    · exact h
  · exact h
theorem ty_s3_ok {x : ty_X} (h : ty_SO b sa n ρ ws x) {q : ty_Q} (hq : ty_k1 b sa n ρ ws q) (h0 : q.1 = 1000) {w : ty_t} (hw : q.2.2.2 = ty_i w) : ty_SO b sa n ρ ws (ty_s3 q w x) := by
  obtain ⟨i, v, h1, h2, h3⟩ := ty_g1000 hq h0
  rw [hw] at h2
  injection h2 with h2
  injection h2 with h2
  subst h2
  unfold ty_s3
  cases hb : ty_ent x.1 (ty_add (ty_k 1) q.2.2.1 (-1)) with
  | false => exact h
  | true =>
    have b1 := ty_ent_ok h.1 hb
    rw [ty_sub_ev, ty_k_ev, h1.2] at b1
    cases i with
    | zero => exact absurd b1 (by decide)
    | succ i =>
      have h1' : ty_is n ρ (ty_pl q.2.2.1 (-1)) (i : Int) := by
        have := ty_is_pl h1 (-1)
        exact ⟨this.1, this.2.trans (by omega)⟩
      show ty_SO b sa n ρ ws (match ty_kt x.1 x.2 ty_cW (ty_pl q.2.2.1 (-1)) with
        | some t => (match ty_cw x.1 t with
          | some k => (x.1, ty_put x.1 x.2 (1000, q.2.1, ty_pl q.2.2.1 (-1), ty_i (ty_pl w (-(k : Int)))))
          | none => x)
        | none => x)
      split
      · rename_i t ht
        split
        · rename_i k hk
          have g1 := ty_kt_ok h ty_wk.1 ht h1'
          have g2 := ty_cw_ok h.1 g1.2 hk
          refine h.put1 (⟨rfl, Or.inl ⟨rfl, i, _, h1', rfl, ?_⟩⟩)
          have := ty_is_pl h3 (-(k : Int))
          refine ⟨this.1, this.2.trans ?_⟩
          show ((ty_cnt (ty_ia ws ty_cW.2) i + (if ty_ia ws ty_cW.2 i = 3 ∨ ty_ia ws ty_cW.2 i = 7 then 1 else 0) : Nat) : Int) + -(k : Int) = _
          rw [g2]
          omega
        · exact h
      · exact h
theorem ty_s4_ok {x : ty_X} (h : ty_SO b sa n ρ ws x) {q : ty_Q} (hq : ty_k1 b sa n ρ ws q) (h0 : q.1 = 1001) {w : ty_t} (hw : q.2.2.2 = ty_i w) : ty_SO b sa n ρ ws (ty_s4 q w x) := by
  obtain ⟨a, m, v, h1, h2, h3, h4, h5⟩ := ty_g1001 hq h0
  rw [hw] at h3
  injection h3 with h3
  injection h3 with h3
  subst h3
  unfold ty_s4
  split
  · rename_i t ht
    split
    · rename_i k hk
      have g1 := ty_kt_ok h ty_wk.2.2.1 ht h2
      have g2 := ty_dk_ok (ty_cls_ok h g1 hk)
      cases hb : ty_ent x.1 (ty_add (ty_k (1 - ty_dk k)) w (-1)) with
      | false => exact h
      | true =>
        have b1 := ty_ent_ok h.1 hb
        rw [ty_sub_ev, ty_k_ev, h4.2] at b1
        have e1 : ty_htn (ty_ia ws ty_cC.2) a (m + 1) = ty_htn (ty_ia ws ty_cC.2) a m + ty_dk k := by
          show ty_htn (ty_ia ws ty_cC.2) a m + ty_dl (ty_ia ws ty_cC.2 (a + m)) = _
          rw [g2]
        refine h.put1 (⟨rfl, Or.inr (Or.inl ⟨rfl, a, m + 1, _, h1, ?_, rfl, ?_, fun m' hm' => ?_⟩)⟩)
        · have := ty_is_pl h2 1
          exact ⟨this.1, this.2.trans (by omega)⟩
        · have := ty_is_pl h4 (ty_dk k)
          exact ⟨this.1, this.2.trans e1.symm⟩
        · by_cases e : m' = m
          · subst e
            rw [e1]
            omega
          · exact h5 m' (by omega)
    · exact h
  · exact h
theorem ty_s5_ok {x : ty_X} (h : ty_SO b sa n ρ ws x) {q : ty_Q} (hq : ty_k1 b sa n ρ ws q) (h0 : q.1 = 1001) {w : ty_t} (hw : q.2.2.2 = ty_i w) : ty_SO b sa n ρ ws (ty_s5 q w x) := by
  obtain ⟨a, m, v, h1, h2, h3, h4, h5⟩ := ty_g1001 hq h0
  rw [hw] at h3
  injection h3 with h3
  injection h3 with h3
  subst h3
  unfold ty_s5
  cases hb : ex_any (fun r => Nat.beq r.1 1004 && (ty_sm x.1 r.2.1 q.2.1 && ty_ent x.1 (ty_pl (ty_add q.2.2.1 r.2.2.1 (-1)) 1))) x.2 with
  | false => exact h
  | true =>
    obtain ⟨r, r1, r2⟩ := ty_any_t hb
    obtain ⟨r2, r3⟩ := ex_and r2
    obtain ⟨r3, r4⟩ := ex_and r3
    obtain ⟨a', M, k1, k2, k3, k4⟩ := ty_g1004 (h.2.2 r r1) (ex_beq r2)
    have hn := h.2.1
    have e1 := ty_sm_ok h.1 r3 (by rw [hn]; exact k1) (by rw [hn]; exact h1)
    have e1 : a' = a := by omega
    subst e1
    have r4 := ty_ent_ok h.1 r4
    rw [ty_pl_ev, ty_sub_ev, h2.2, k2.2] at r4
    have hlt : m + 1 ≤ M := by omega
    have hv := k3 m (by omega)
    have hl := ty_ltn_mono (ty_ia ws ty_cC.2) a' (m + 1) (M - (m + 1))
    rw [show m + 1 + (M - (m + 1)) = M by omega] at hl
    have hh := ty_htn_le (ty_ia ws ty_cC.2) a' m
    show ty_SO b sa n ρ ws (match ty_kt x.1 x.2 ty_cC q.2.2.1 with
      | some t => (match ty_cls x.1 x.2 t with
        | some k => (bif Nat.beq k 1 then ty_cs1 (ty_cs1 x.1 (ty_pl w (-29))) (ty_add (ty_k 0) w (-1)) else bif Nat.beq k 0 then ty_cs1 x.1 (ty_add (ty_k 1) w (-1)) else ty_cs1 x.1 (ty_add (ty_k 2) w (-1)), x.2)
        | none => x)
      | none => x)
    split
    · rename_i t ht
      split
      · rename_i k hk
        have g1 := ty_kt_ok h ty_wk.2.2.1 ht h2
        have g0 := ty_cls_ok h g1 hk
        have g2 := ty_dk_ok g0
        have e2 : 1 ≤ ty_htn (ty_ia ws ty_cC.2) a' m + ty_dk k := by
          have : ty_htn (ty_ia ws ty_cC.2) a' (m + 1) = ty_htn (ty_ia ws ty_cC.2) a' m + ty_dl (ty_ia ws ty_cC.2 (a' + m)) := rfl
          rw [g2] at this
          omega
        rcases g0 with ⟨rfl, c1, c2⟩ | ⟨rfl, c1⟩ | ⟨rfl, c1, c2⟩
        · have e3 : ty_ltn (ty_ia ws ty_cC.2) a' (m + 1) = ty_ltn (ty_ia ws ty_cC.2) a' m + 1 := by
            show ty_ltn (ty_ia ws ty_cC.2) a' m + (if 97 ≤ ty_ia ws ty_cC.2 (a' + m) ∧ ty_ia ws ty_cC.2 (a' + m) ≤ 122 then 1 else 0) = _
            rw [if_pos ⟨c1, c2⟩]
          have e4 : 1 ≤ ty_htn (ty_ia ws ty_cC.2) a' m + 1 := e2
          exact (h.cs (t := ty_pl w (-29)) (ty_pl_sc h4.1) (by rw [ty_pl_ev, h4.2]; omega)).cs (t := ty_add (ty_k 0) w (-1)) (ty_add_sc ty_k_sc h4.1) (by rw [ty_sub_ev, ty_k_ev, h4.2]; omega)
        · have e4 : 1 ≤ ty_htn (ty_ia ws ty_cC.2) a' m + 0 := e2
          exact h.cs (t := ty_add (ty_k 1) w (-1)) (ty_add_sc ty_k_sc h4.1) (by rw [ty_sub_ev, ty_k_ev, h4.2]; omega)
        · have e4 : 1 ≤ ty_htn (ty_ia ws ty_cC.2) a' m + -1 := e2
          exact h.cs (t := ty_add (ty_k 2) w (-1)) (ty_add_sc ty_k_sc h4.1) (by rw [ty_sub_ev, ty_k_ev, h4.2]; omega)
      · exact h
    · exact h
theorem ty_s6_ok {x : ty_X} (h : ty_SO b sa n ρ ws x) {q : ty_Q} (hq : ty_k1 b sa n ρ ws q) (h0 : q.1 = 1002) {w : ty_t} (hw : q.2.2.2 = ty_i w) : ty_SO b sa n ρ ws (ty_s6 q w x) := by
  obtain ⟨a, m, v, z, h1, h2, h3, h4, h5⟩ := ty_g1002 hq h0
  rw [hw] at h3
  injection h3 with h3
  injection h3 with h3
  subst h3
  unfold ty_s6
  split
  · rename_i t ht
    split
    · rename_i k hk
      have g1 := ty_kt_ok h ty_wk.2.2.1 ht h2
      have g0 := ty_cls_ok h g1 hk
      refine h.put1 (⟨rfl, Or.inr (Or.inr (Or.inl ⟨rfl, a, m + 1, _, z + (bif Nat.beq k 1 then 1 else 0), h1, ?_, rfl, ty_is_pl h4 _, ?_⟩))⟩)
      · have := ty_is_pl h2 1
        exact ⟨this.1, this.2.trans (by omega)⟩
      · show ((ty_ltn (ty_ia ws ty_cC.2) a m + (if 97 ≤ ty_ia ws ty_cC.2 (a + m) ∧ ty_ia ws ty_cC.2 (a + m) ≤ 122 then 1 else 0) : Nat) : Int) ≤ _
        rcases g0 with ⟨rfl, c1, c2⟩ | ⟨rfl, c1⟩ | ⟨rfl, c1, c2⟩
        · rw [if_pos ⟨c1, c2⟩]
          show _ ≤ z + 1
          omega
        · rw [if_neg (by omega)]
          show _ ≤ z + 0
          omega
        · rw [if_neg c1]
          show _ ≤ z + 0
          omega
    · exact h
  · exact h
theorem ty_s9_ok {x : ty_X} (h : ty_SO b sa n ρ ws x) (hr : ∀ i, ty_ia ws ty_cW.2 i ≤ 8) {q : ty_Q} (hq : ty_k1 b sa n ρ ws q) (h0 : q.1 = ty_cW.1) {t : ty_t} (hw : q.2.2.2 = ty_i t) : ty_SO b sa n ρ ws (ty_s9 q t x) := by
  unfold ty_s9
  cases hb : (ty_sm x.1 q.2.1 (ty_k (ty_cW.2 : Int)) && ty_le (ty_hi x.1 t) 7 && (match ty_kt x.1 x.2 ty_cW (ty_k 0) with
    | some u => ty_le 8 (ty_lo x.1 u)
    | none => false)) with
  | false => exact h
  | true =>
    obtain ⟨b1, b2⟩ := ex_and hb
    obtain ⟨b1, b3⟩ := ex_and b1
    have b3 := ty_le_t b3
    have e0 := ty_w0 h b2 hr
    rcases hq with ⟨hg, j, i, a, ev, y, z1, z2, z3, z4, z5, z6, z7⟩ | ⟨hg, -⟩
    · have hn := h.2.1
      have e1 := ty_sm_ok h.1 b1 (by rw [hn]; exact z1) (ty_is_k _ _ _)
      have e1 : j = ty_cW.2 := by omega
      subst e1
      rw [hw] at z7
      obtain ⟨w, rfl, hw'⟩ := z7
      have e2 : ty_ia ws ty_cW.2 i = w.toInt := by
        unfold ty_ia
        rw [z4]
        dsimp only
        rw [z5]
      have e3 := (ty_lh h.1 hw'.2).2
      have hi : i ≠ 0 := fun z => by
        subst z
        omega
      exact h.cs (t := ty_add (ty_k 1) q.2.2.1 (-1)) (ty_add_sc ty_k_sc z2.1) (by rw [ty_sub_ev, ty_k_ev, z2.2]; omega)
    · rw [h0] at hg; cases hg
theorem ty_sg_ok {x : ty_X} (h : ty_SO b sa n ρ ws x) {tj t s : ty_t} {i : Nat} {z y : Int} (hj : ty_is n ρ tj (i : Int)) (ht : ty_is n ρ t z) (hs : ty_is n ρ s y) (hb : ty_sgb x.1 x.2 tj t s = true) : ty_sg i z y := by
  obtain ⟨l1, l2⟩ := ty_lh h.1 ht.2
  have ks : ∀ k0 : Nat, (match ty_cls x.1 x.2 s with
    | some k => Nat.beq k k0
    | none => false) = true → ty_clP k0 y := fun k0 hk => by
    split at hk
    · rename_i k hc
      have := ex_beq hk
      subst this
      exact ty_cls_ok h hs hc
    · cases hk
  obtain ⟨hj0, hb⟩ := ex_and hb
  have h3 : 1 ≤ i → z ≤ 7 := fun hi => by
    rcases Bool.or_eq_true _ _ |>.mp hj0 with c1 | c1
    · have c1 := ty_le_t c1
      omega
    · have c1 := ty_ent_ok h.1 c1
      rw [hj.2] at c1
      omega
  rcases Bool.or_eq_true _ _ |>.mp hb with c1 | hb
  · have c1 := ty_le_t c1
    exact ⟨fun _ => by omega, fun _ _ => by omega, h3⟩
  rcases Bool.or_eq_true _ _ |>.mp hb with c1 | c1
  · obtain ⟨c1, c2⟩ := ex_and c1
    obtain ⟨c1, c3⟩ := ex_and c1
    have c1 := ty_le_t c1
    have c3 := ty_le_t c3
    rcases ks 0 c2 with ⟨g, -⟩ | ⟨-, g⟩ | ⟨g, -⟩
    · cases g
    · exact ⟨fun _ => g, fun _ _ => by omega, h3⟩
    · cases g
  · obtain ⟨c1, c2⟩ := ex_and c1
    rcases ks 2 c2 with ⟨g, -⟩ | ⟨g, -⟩ | ⟨-, g⟩
    · cases g
    · cases g
    · refine ⟨fun e => ?_, fun _ _ => g, h3⟩
      rcases Bool.or_eq_true _ _ |>.mp c1 with c1 | c1
      · have c1 := ty_le_t c1
        omega
      · obtain ⟨c1, c3⟩ := ex_and c1
        have c1 := ty_le_t c1
        omega
theorem ty_s16_ok {x : ty_X} (h : ty_SO b sa n ρ ws x) {q : ty_Q} (hq : ty_k1 b sa n ρ ws q) (h0 : q.1 = ty_cW.1) {t : ty_t} (hw : q.2.2.2 = ty_i t) : ty_SO b sa n ρ ws (ty_s16 q t x) := by
  unfold ty_s16
  cases hb : (ty_sm x.1 q.2.1 (ty_k (ty_cW.2 : Int)) && ty_le 8 (ty_lo x.1 t) && ex_any (fun r => Nat.beq r.1 1006 && ty_ent x.1 (ty_pl (ty_add q.2.2.1 r.2.2.1 (-1)) 1)) x.2) with
  | false => exact h
  | true =>
    obtain ⟨b1, b2⟩ := ex_and hb
    obtain ⟨b1, b3⟩ := ex_and b1
    have b3 := ty_le_t b3
    rcases hq with ⟨hg, j, i, a, ev, y, z1, z2, z3, z4, z5, z6, z7⟩ | ⟨hg, -⟩
    · have hn := h.2.1
      have e1 := ty_sm_ok h.1 b1 (by rw [hn]; exact z1) (ty_is_k _ _ _)
      have e1 : j = ty_cW.2 := by omega
      subst e1
      rw [hw] at z7
      obtain ⟨w, rfl, hw'⟩ := z7
      have e2 : ty_ia ws ty_cW.2 i = w.toInt := by
        unfold ty_ia
        rw [z4]
        dsimp only
        rw [z5]
      have e3 := (ty_lh h.1 hw'.2).1
      obtain ⟨r, r1, r2⟩ := ty_any_t b2
      obtain ⟨r2, r3⟩ := ex_and r2
      obtain ⟨m, k1, k2⟩ := ty_g1006 (h.2.2 r r1) (ex_beq r2)
      have r3 := ty_ent_ok h.1 r3
      rw [ty_pl_ev, ty_sub_ev, z2.2, k1.2] at r3
      have k3 := (k2 i (by omega)).2.2
      have hi : i = 0 := by
        by_cases e : i = 0
        · exact e
        · have := k3 (by omega)
          omega
      exact h.cs (t := q.2.2.1) z2.1 (by rw [z2.2]; omega)
    · rw [h0] at hg; cases hg
theorem ty_s7_ok {x : ty_X} (h : ty_SO b sa n ρ ws x) {q : ty_Q} (hq : ty_k1 b sa n ρ ws q) (h0 : q.1 = 1006) : ty_SO b sa n ρ ws (ty_s7 q x) := by
  obtain ⟨i, h1, h2⟩ := ty_g1006 hq h0
  unfold ty_s7
  split
  · rename_i t s ht hs
    have g1 := ty_kt_ok h ty_wk.1 ht h1
    have g2 := ty_kt_ok h ty_wk.2.1 hs h1
    cases hb : ty_sgb x.1 x.2 q.2.2.1 t s with
    | false => exact h
    | true =>
      have g3 := ty_sg_ok h h1 g1 g2 hb
      refine h.put1 (⟨rfl, Or.inr (Or.inr (Or.inr (Or.inr (Or.inr (Or.inl ⟨rfl, i + 1, ?_, fun j hj => ?_⟩)))))⟩)
      · have := ty_is_pl h1 1
        exact ⟨this.1, this.2.trans (by omega)⟩
      · by_cases e : j = i
        · subst e
          exact g3
        · exact h2 j (by omega)
  · exact h
theorem ty_s13_ok {x : ty_X} (h : ty_SO b sa n ρ ws x) {q : ty_Q} (hq : ty_k1 b sa n ρ ws q) (h0 : q.1 = 1006) : ty_SO b sa n ρ ws (ty_s13 q x) := by
  obtain ⟨i, h1, h2⟩ := ty_g1006 hq h0
  unfold ty_s13
  cases hb : ty_ent x.1 (ty_add (ty_k 1) q.2.2.1 (-1)) with
  | false => exact h
  | true =>
    have b1 := ty_ent_ok h.1 hb
    rw [ty_sub_ev, ty_k_ev, h1.2] at b1
    show ty_SO b sa n ρ ws (match ty_kt x.1 x.2 ty_cW (ty_pl q.2.2.1 (-1)) with
      | some _ => (x.1, ty_put x.1 x.2 (1006, q.2.1, ty_pl q.2.2.1 (-1), q.2.2.2))
      | none => x)
    split
    · refine h.put1 (⟨rfl, Or.inr (Or.inr (Or.inr (Or.inr (Or.inr (Or.inl ⟨rfl, i - 1, ?_, fun j hj => h2 j (by omega)⟩)))))⟩)
      have := ty_is_pl h1 (-1)
      exact ⟨this.1, this.2.trans (by omega)⟩
    · exact h
theorem ty_s8_ok {x : ty_X} (h : ty_SO b sa n ρ ws x) {q : ty_Q} (hq : ty_k1 b sa n ρ ws q) (h0 : q.1 = ty_cS.1) {s : ty_t} (hw : q.2.2.2 = ty_i s) : ty_SO b sa n ρ ws (ty_s8 q s x) := by
  unfold ty_s8
  cases hb : (ty_sm x.1 q.2.1 (ty_k (ty_cS.2 : Int)) && ex_any (fun r => Nat.beq r.1 1006 && ty_ent x.1 (ty_pl (ty_add q.2.2.1 r.2.2.1 (-1)) 1)) x.2) with
  | false => exact h
  | true =>
    obtain ⟨b1, b2⟩ := ex_and hb
    rcases hq with ⟨hg, j, i, a, ev, y, z1, z2, z3, z4, z5, z6, z7⟩ | ⟨hg, -⟩
    · have hn := h.2.1
      have e1 := ty_sm_ok h.1 b1 (by rw [hn]; exact z1) (ty_is_k _ _ _)
      have e1 : j = ty_cS.2 := by omega
      subst e1
      rw [hw] at z7
      obtain ⟨w, rfl, hw'⟩ := z7
      have e2 : ty_ia ws ty_cS.2 i = w.toInt := by
        unfold ty_ia
        rw [z4]
        dsimp only
        rw [z5]
      obtain ⟨r, r1, r2⟩ := ty_any_t b2
      obtain ⟨r2, r3⟩ := ex_and r2
      obtain ⟨m, k1, k2⟩ := ty_g1006 (h.2.2 r r1) (ex_beq r2)
      have r3 := ty_ent_ok h.1 r3
      rw [ty_pl_ev, ty_sub_ev, z2.2, k1.2] at r3
      have k3 := k2 i (by omega)
      rw [e2] at k3
      show ty_SO b sa n ρ ws (match ty_kt x.1 x.2 ty_cW q.2.2.1 with
        | some t => bif ty_le 3 (ty_lo x.1 t) && ty_le (ty_hi x.1 t) 3 then (ty_cs1 (ty_cs1 x.1 (ty_pl s (-126))) (ty_add (ty_k 126) s (-1)), x.2) else bif ty_le (ty_hi x.1 t) 2 || (ty_le 4 (ty_lo x.1 t) && ty_le (ty_hi x.1 t) 6) then (x.1, ty_put x.1 x.2 (1007, s, ty_k 0, ty_z)) else x
        | none => x)
      split
      · rename_i t ht
        have g1 := ty_kt_ok h ty_wk.1 ht z2
        obtain ⟨l1, l2⟩ := ty_lh h.1 g1.2
        cases hc : (ty_le 3 (ty_lo x.1 t) && ty_le (ty_hi x.1 t) 3) with
        | true =>
          obtain ⟨c1, c2⟩ := ex_and hc
          have c1 := ty_le_t c1
          have c2 := ty_le_t c2
          have c3 := k3.1 (by omega)
          exact (h.cs (t := ty_pl s (-126)) (ty_pl_sc hw'.1) (by rw [ty_pl_ev, hw'.2]; omega)).cs (t := ty_add (ty_k 126) s (-1)) (ty_add_sc ty_k_sc hw'.1) (by rw [ty_sub_ev, ty_k_ev, hw'.2]; omega)
        | false =>
          show ty_SO b sa n ρ ws (bif ty_le (ty_hi x.1 t) 2 || (ty_le 4 (ty_lo x.1 t) && ty_le (ty_hi x.1 t) 6) then (x.1, ty_put x.1 x.2 (1007, s, ty_k 0, ty_z)) else x)
          cases hd : (ty_le (ty_hi x.1 t) 2 || (ty_le 4 (ty_lo x.1 t) && ty_le (ty_hi x.1 t) 6)) with
          | false => exact h
          | true =>
            have c4 : ty_ia ws ty_cW.2 i ≤ 6 ∧ ty_ia ws ty_cW.2 i ≠ 3 := by
              rcases Bool.or_eq_true _ _ |>.mp hd with c2 | c2
              · have c2 := ty_le_t c2
                omega
              · obtain ⟨c2, c3⟩ := ex_and c2
                have c2 := ty_le_t c2
                have c3 := ty_le_t c3
                omega
            exact h.put1 (⟨rfl, Or.inr (Or.inr (Or.inr (Or.inr (Or.inr (Or.inr ⟨rfl, w.toInt, hw', k3.2.1 c4.1 c4.2⟩)))))⟩)
      · exact h
    · rw [h0] at hg; cases hg
theorem ty_g1003 {q : ty_Q} (h : ty_k1 b sa n ρ ws q) (hq : q.1 = 1003) : ∃ (b r : Nat) (v : ty_t) (z : Int), ty_is n ρ q.2.1 (b : Int) ∧ ty_is n ρ q.2.2.1 (r : Int) ∧ q.2.2.2 = ty_i v ∧ ty_is n ρ v z ∧ ((ty_ia ws ty_cT.2 b / 2 ^ r) % 2 = 1 → ∃ a m : Nat, ty_ia ws ty_cF.2 (2 * b + r) = (a : Int) ∧ ty_ia ws ty_cO.2 (2 * b + r) = ((a + m : Nat) : Int) ∧ 560 * b ≤ a ∧ ((a + m : Nat) : Int) ≤ z ∧ ty_vl (ty_ia ws ty_cC.2) a m ∧ ty_ltn (ty_ia ws ty_cC.2) a m ≤ 30) := by
  rcases ty_sgh h (by rw [hq]; rfl) (by omega) with ⟨g, -⟩ | ⟨g, -⟩ | ⟨g, -⟩ | ⟨-, g⟩ | ⟨g, -⟩ | ⟨g, -⟩ | ⟨g, -⟩
  · omega
  · omega
  · omega
  · exact g
  all_goals omega
theorem ty_bit_i (c r : Nat) : ((c : Int) / 2 ^ r) % 2 = ((c / 2 ^ r % 2 : Nat) : Int) := by
  have h1 : ((2 ^ r : Nat) : Int) = (2 : Int) ^ r := by
    rw [Int.natCast_pow]
    rfl
  rw [← h1]
  omega
theorem ty_cstv {x : ty_X} (h : ty_SO b sa n ρ ws x) {t : ty_t} {c : Nat} (hc : ty_cst x.1 t = some (.ofNat c)) {z : Int} (ht : ty_is n ρ t z) : z = (c : Int) := by
  have := ty_cst_ok h.1 hc
  rw [ht.2] at this
  exact this
theorem ty_s10_ok {x : ty_X} (h : ty_SO b sa n ρ ws x) {q : ty_Q} (hq : ty_k1 b sa n ρ ws q) (h0 : q.1 = 1003) {w : ty_t} (hw : q.2.2.2 = ty_i w) : ty_SO b sa n ρ ws (ty_s10 q w x) := by
  obtain ⟨bb, r, v, zz, h1, h2, hv, hz, h3⟩ := ty_g1003 hq h0
  rw [hw] at hv
  injection hv with hv
  injection hv with hv
  subst hv
  unfold ty_s10
  split
  · rename_i r' hr'
    have er := ty_cstv h hr' h2
    have er : r = r' := by omega
    subst er
    split
    · rename_i t F T ht hF hT
      split
      · rename_i c hc
        cases hb : ty_bit c r with
        | false => exact h
        | true =>
          have hb := ex_beq hb
          have g1 := ty_kt_ok h ty_wk.2.2.2.1 ht h1
          have hsl : ty_is n ρ (ty_add q.2.2.1 q.2.1 2) ((2 * bb + r : Nat) : Int) := by
            have := ty_is_add h2 h1 2
            exact ⟨this.1, this.2.trans (by omega)⟩
          have g2 := ty_kt_ok h ty_wk.2.2.2.2.1 hF hsl
          have g3 := ty_kt_ok h ty_wk.2.2.2.2.2 hT hsl
          have ec := ty_cstv h hc g1
          obtain ⟨a, m, k1, k2, k3, k4, k5, k6⟩ := h3 (by rw [ec, ty_bit_i, hb]; rfl)
          rw [k1] at g2
          rw [k2] at g3
          have hp := h.put1 (q := (1004, F, T, ty_z)) (⟨rfl, Or.inr (Or.inr (Or.inr (Or.inr (Or.inl ⟨rfl, a, m, g2, g3, k5, k6⟩))))⟩)
          exact (hp.cs (t := ty_add (ty_add (ty_k 0) q.2.1 560) F (-1)) (ty_add_sc (ty_add_sc ty_k_sc h1.1) g2.1) (by rw [ty_sub_ev, ty_add_ev, ty_k_ev, h1.2, g2.2]; omega)).cs (t := ty_add T w (-1)) (ty_add_sc g3.1 hz.1) (by rw [ty_sub_ev, hz.2, g3.2]; omega)
      · exact h
    · exact h
  · exact h
theorem ty_s11_ok {x : ty_X} (h : ty_SO b sa n ρ ws x) (r : Nat) {q : ty_Q} (hq : ty_k1 b sa n ρ ws q) (h0 : q.1 = ty_cT.1) {t : ty_t} (hw : q.2.2.2 = ty_i t) : ty_SO b sa n ρ ws (ty_s11 r q t x) := by
  unfold ty_s11
  cases hb : ty_sm x.1 q.2.1 (ty_k (ty_cT.2 : Int)) with
  | false => exact h
  | true =>
    rcases hq with ⟨hg, j, i, a, ev, y, z1, z2, z3, z4, z5, z6, z7⟩ | ⟨hg, -⟩
    · have hn := h.2.1
      have e1 := ty_sm_ok h.1 hb (by rw [hn]; exact z1) (ty_is_k _ _ _)
      have e1 : j = ty_cT.2 := by omega
      subst e1
      rw [hw] at z7
      obtain ⟨w, rfl, hw'⟩ := z7
      have e2 : ty_ia ws ty_cT.2 i = w.toInt := by
        unfold ty_ia
        rw [z4]
        dsimp only
        rw [z5]
      show ty_SO b sa n ρ ws (match ty_cst x.1 t with
        | some (.ofNat c) => bif ty_bit c r then x else (x.1, ty_put x.1 x.2 (1003, q.2.2.1, ty_k (r : Int), ty_i (ty_k 0)))
        | _ => x)
      split
      · rename_i c hc
        have ec := ty_cstv h hc hw'
        cases hd : ty_bit c r with
        | true => exact h
        | false =>
          have hd := ex_bne hd
          refine h.put1 (⟨rfl, Or.inr (Or.inr (Or.inr (Or.inl ⟨rfl, i, r, ty_k 0, 0, z2, ty_is_k _ _ _, rfl, ty_is_k _ _ _, fun hx => ?_⟩)))⟩)
          rw [e2, ec, ty_bit_i] at hx
          exact absurd (show c / 2 ^ r % 2 = 1 by omega) hd
      · exact h
    · rw [h0] at hg; cases hg
theorem ty_okS_ok {x : ty_X} (h : ty_SO b sa n ρ ws x) {F T : ty_t} {z y : Int} (hF : ty_is n ρ F z) (hT : ty_is n ρ T y) (hb : ty_okS x F T = true) : ∃ a m : Nat, z = (a : Int) ∧ y = ((a + m : Nat) : Int) ∧ ty_vl (ty_ia ws ty_cC.2) a m ∧ ty_ltn (ty_ia ws ty_cC.2) a m ≤ 30 := by
  have hn := h.2.1
  rcases Bool.or_eq_true _ _ |>.mp hb with hb | hb
  · obtain ⟨r, r1, r2⟩ := ty_any_t hb
    obtain ⟨r2, r3⟩ := ex_and r2
    obtain ⟨r3, r4⟩ := ex_and r3
    obtain ⟨a, m, k1, k2, k3, k4⟩ := ty_g1004 (h.2.2 r r1) (ex_beq r2)
    exact ⟨a, m, (ty_sm_ok h.1 r3 (by rw [hn]; exact k1) (by rw [hn]; exact hF)).symm, (ty_sm_ok h.1 r4 (by rw [hn]; exact k2) (by rw [hn]; exact hT)).symm, k3, k4⟩
  · obtain ⟨hb, hb'⟩ := ex_and hb
    obtain ⟨r, r1, r2⟩ := ty_any_t hb
    obtain ⟨r2, r3⟩ := ex_and r2
    obtain ⟨r3, r4⟩ := ex_and r3
    obtain ⟨a, m, v, k1, k2, -, -, k3⟩ := ty_g1001 (h.2.2 r r1) (ex_beq r2)
    obtain ⟨r', p1, p2⟩ := ty_any_t hb'
    obtain ⟨p2, p3⟩ := ex_and p2
    obtain ⟨p3, p4⟩ := ex_and p3
    obtain ⟨p4, p5⟩ := ex_and p4
    obtain ⟨a', m', v', z', j1, j2, j3, j4, j5⟩ := ty_g1002 (h.2.2 r' p1) (ex_beq p2)
    rw [j3] at p5
    have p5 := ty_ent_ok h.1 (show ty_ent x.1 (ty_pl v' (-30)) = true from p5)
    rw [ty_pl_ev, j4.2] at p5
    have e1 := ty_sm_ok h.1 r3 (by rw [hn]; exact k1) (by rw [hn]; exact hF)
    have e2 := ty_sm_ok h.1 r4 (by rw [hn]; exact k2) (by rw [hn]; exact hT)
    have e3 := ty_sm_ok h.1 p3 (by rw [hn]; exact j1) (by rw [hn]; exact hF)
    have e4 := ty_sm_ok h.1 p4 (by rw [hn]; exact j2) (by rw [hn]; exact hT)
    have e5 : a' = a := by omega
    have e6 : m' = m := by omega
    subst e5
    subst e6
    exact ⟨a', m', e1.symm, e2.symm, k3, by omega⟩
theorem ty_s12_ok {x : ty_X} (h : ty_SO b sa n ρ ws x) {q : ty_Q} (hq : ty_k1 b sa n ρ ws q) (h0 : q.1 = ty_cO.1) {T : ty_t} (hw : q.2.2.2 = ty_i T) : ty_SO b sa n ρ ws (ty_s12 q T x) := by
  unfold ty_s12
  cases hb : ty_sm x.1 q.2.1 (ty_k (ty_cO.2 : Int)) with
  | false => exact h
  | true =>
    rcases hq with ⟨hg, j, i, a, ev, y, z1, z2, z3, z4, z5, z6, z7⟩ | ⟨hg, -⟩
    · have hn := h.2.1
      have e1 := ty_sm_ok h.1 hb (by rw [hn]; exact z1) (ty_is_k _ _ _)
      have e1 : j = ty_cO.2 := by omega
      subst e1
      rw [hw] at z7
      obtain ⟨w, rfl, hw'⟩ := z7
      have e2 : ty_ia ws ty_cO.2 i = w.toInt := by
        unfold ty_ia
        rw [z4]
        dsimp only
        rw [z5]
      show ty_SO b sa n ρ ws (match ty_cst x.1 q.2.2.1, ty_kt x.1 x.2 ty_cF q.2.2.1 with
        | some (.ofNat s), some F => bif ty_okS x F T && ty_ent x.1 (ty_add (ty_k (560 * (s / 2 : Nat))) F (-1)) then (x.1, ty_put x.1 x.2 (1003, ty_k ((s / 2 : Nat) : Int), ty_k ((s % 2 : Nat) : Int), ty_i T)) else x
        | _, _ => x)
      split
      · rename_i s F hs hF
        have es := ty_cstv h hs z2
        have es : i = s := by omega
        subst es
        have g2 := ty_kt_ok h ty_wk.2.2.2.2.1 hF z2
        cases hc : (ty_okS x F T && ty_ent x.1 (ty_add (ty_k (560 * (i / 2 : Nat))) F (-1))) with
        | false => exact h
        | true =>
          obtain ⟨c1, c2⟩ := ex_and hc
          obtain ⟨a', m', k1, k2, k3, k4⟩ := ty_okS_ok h g2 hw' c1
          have c2 := ty_ent_ok h.1 c2
          rw [ty_sub_ev, ty_k_ev, g2.2, k1] at c2
          refine h.put1 (⟨rfl, Or.inr (Or.inr (Or.inr (Or.inl ⟨rfl, i / 2, i % 2, T, w.toInt, ty_is_k _ _ _, ty_is_k _ _ _, rfl, hw', fun _ => ⟨a', m', ?_, ?_, by omega, by omega, k3, k4⟩⟩)))⟩)
          · rw [show 2 * (i / 2) + i % 2 = i by omega]
            exact k1
          · rw [show 2 * (i / 2) + i % 2 = i by omega, e2]
            exact k2
      · exact h
    · rw [h0] at hg; cases hg
theorem ty_w8 {tys : List (ClassId × FieldType)} (hth : ty_th tys ws) (i : Nat) : ty_ia ws ty_cW.2 i ≤ 8 := by
  obtain ⟨a, ev, c, h1, h2, h3⟩ := hth ty_cW.2 ty_cW.1 ty_wk.1
  have hc : ty_ct[ty_cW.1]? = some (.inr (0, 90, .inl (0, 8))) := rfl
  rw [hc] at h2
  injection h2 with h2
  subst h2
  cases ev with
  | inr w => exact h3.elim
  | inl w =>
    obtain ⟨-, -, g3, -, g5⟩ := h3
    unfold ty_ia
    rw [h1]
    show (match (if i < w.2.1 then some (ex_ag w.2 i) else none) with
      | some (.int y) => y.toInt
      | _ => 0) ≤ 8
    by_cases hi : i < w.2.1
    · rw [if_pos hi]
      obtain ⟨y, k1, k2, k3⟩ := g5 i (by rw [← g3]; exact hi)
      rw [k1]
      exact k3
    · rw [if_neg hi]
      decide
theorem ty_k1w {q : ty_Q} (hq : ty_k1 b sa n ρ ws q) (hg : ty_isG q.1 = false) {t : ty_t} (hw : q.2.2.2 = ty_i t) : ∃ z : Int, ty_is n ρ t z := by
  rcases hq with ⟨-, j, i, a, ev, y, z1, z2, z3, z4, z5, z6, z7⟩ | ⟨z, -⟩
  · rw [hw] at z7
    obtain ⟨w, -, hw'⟩ := z7
    exact ⟨_, hw'⟩
  · rw [hg] at z; cases z
theorem ty_s14_ok {x : ty_X} (h : ty_SO b sa n ρ ws x) {F : ty_t} (hF : ∃ z : Int, ty_is n ρ F z) : ty_SO b sa n ρ ws (ty_s14 F x) := by
  obtain ⟨z, hF⟩ := hF
  unfold ty_s14
  cases hb : ty_ent x.1 (ty_add (ty_k 0) F (-1)) with
  | false => exact h
  | true =>
    have b1 := ty_ent_ok h.1 hb
    rw [ty_sub_ev, ty_k_ev, hF.2] at b1
    have hN : ty_is n ρ F (z.toNat : Int) := ⟨hF.1, hF.2.trans (by omega)⟩
    exact (h.put1 (q := (1001, F, F, ty_i (ty_k 0))) (⟨rfl, Or.inr (Or.inl ⟨rfl, z.toNat, 0, ty_k 0, hN, hN, rfl, ty_is_k _ _ _, fun m hm => absurd hm (Nat.not_lt_zero _)⟩)⟩)).put1 (q := (1002, F, F, ty_i (ty_k 0))) (⟨rfl, Or.inr (Or.inr (Or.inl ⟨rfl, z.toNat, 0, ty_k 0, 0, hN, hN, rfl, ty_is_k _ _ _, Int.le_refl _⟩))⟩)
theorem ty_s15_ok {x : ty_X} (h : ty_SO b sa n ρ ws x) (q : ty_Q) : ty_SO b sa n ρ ws (ty_s15 q x) := by
  unfold ty_s15
  split
  · exact (h.put1 (q := (1000, ty_k 0, ty_k 0, ty_i (ty_k 0))) (⟨rfl, Or.inl ⟨rfl, 0, ty_k 0, ty_is_k _ _ _, rfl, ty_is_k _ _ _⟩⟩)).put1 (q := (1006, ty_k 0, ty_k 0, ty_z)) (⟨rfl, Or.inr (Or.inr (Or.inr (Or.inr (Or.inr (Or.inl ⟨rfl, 0, ty_is_k _ _ _, fun j hj => absurd hj (Nat.not_lt_zero _)⟩)))))⟩)
  · exact h
theorem ty_sq_ok {x : ty_X} (h : ty_SO b sa n ρ ws x) (hr : ∀ i, ty_ia ws ty_cW.2 i ≤ 8) {q : ty_Q} (hq : ty_k1 b sa n ρ ws q) : ty_SO b sa n ρ ws (ty_sq q x) := by
  unfold ty_sq
  split
  · rename_i w hw
    cases h1 : Nat.beq q.1 1000 with
    | true => exact ty_s3_ok (ty_s2_ok (ty_s1_ok h hr hq (ex_beq h1) hw) hq (ex_beq h1) hw) hq (ex_beq h1) hw
    | false =>
    cases h2 : Nat.beq q.1 1001 with
    | true => exact ty_s4_ok (ty_s5_ok h hq (ex_beq h2) hw) hq (ex_beq h2) hw
    | false =>
    cases h3 : Nat.beq q.1 1002 with
    | true => exact ty_s6_ok h hq (ex_beq h3) hw
    | false =>
    cases h9 : Nat.beq q.1 1003 with
    | true => exact ty_s10_ok h hq (ex_beq h9) hw
    | false =>
    cases h4 : Nat.beq q.1 ty_cW.1 with
    | true => exact ty_s15_ok (ty_s16_ok (ty_s9_ok h hr hq (ex_beq h4) hw) hq (ex_beq h4) hw) q
    | false =>
    cases h8 : Nat.beq q.1 ty_cF.1 with
    | true => exact ty_s14_ok h (ty_k1w hq (by rw [ex_beq h8]; rfl) hw)
    | false =>
    cases h5 : Nat.beq q.1 ty_cS.1 with
    | true => exact ty_s8_ok h hq (ex_beq h5) hw
    | false =>
    cases h6 : Nat.beq q.1 ty_cT.1 with
    | true => exact ty_s11_ok (ty_s11_ok h 0 hq (ex_beq h6) hw) 1 hq (ex_beq h6) hw
    | false =>
    cases h7 : Nat.beq q.1 ty_cO.1 with
    | true => exact ty_s12_ok h hq (ex_beq h7) hw
    | false => exact h
  · cases h2 : Nat.beq q.1 1006 with
    | true => exact ty_s13_ok (ty_s7_ok h hq (ex_beq h2)) hq (ex_beq h2)
    | false => exact h
end TYG
