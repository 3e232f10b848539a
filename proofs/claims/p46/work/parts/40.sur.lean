/-! what fits: rows that are seen; and all rules together -/
noncomputable def ty_zs (x : ty_X) (f : ty_t → Bool) (X Y : ty_t) : Bool := ex_any (fun r => Nat.beq r.1 1009 && (ty_sm x.1 r.2.1 X && (ty_sm x.1 r.2.2.1 Y && (match r.2.2.2 with
  | .inl (.inl z) => f z
  | _ => false)))) x.2
/-- the bit that a row asks of -/
noncomputable def ty_zb (q : ty_Q) (x : ty_X) (f : ty_t → ty_t → Bool) : Bool := match ty_kt x.1 x.2 ty_cH q.2.2.1, ty_kt x.1 x.2 ty_cP q.2.2.1, ty_kt x.1 x.2 ty_cI q.2.2.1 with
  | some h, some y, some s => (match ty_kt x.1 x.2 ty_cB (ty_add h q.2.1 21) with
    | some X => ty_nn (ty_lo x.1 h) && ty_zs x (f s) X y
    | none => false)
  | _, _, _ => false
noncomputable def ty_r1 (q : ty_Q) (k : ty_t) (x : ty_X) : Bool := (match ty_kt x.1 x.2 ty_cA q.2.2.1 with
  | some a => ty_ent x.1 (ty_pl (ty_add k a (-1)) 1)
  | none => false) || ((match ty_kt x.1 x.2 ty_cU q.2.2.1 with
  | some b => ty_ent x.1 (ty_add (ty_k 0) b (-1)) && ty_ent x.1 (ty_add b k (-1))
  | none => false) || ty_zb q x (fun s z => ty_ent x.1 (ty_add z s (-1)) && ty_ent x.1 (ty_add s z (-1))))
noncomputable def ty_r2 (q : ty_Q) (k : ty_t) (x : ty_X) : Bool := (match ty_kt x.1 x.2 ty_cM (ty_k (ty_sn : Int)) with
  | some n => ty_ent x.1 (ty_pl (ty_add q.2.2.1 n (-1)) 1)
  | none => false) && ((match ty_kt x.1 x.2 ty_cA q.2.2.1 with
  | some a => ty_ent x.1 (ty_add a k (-1))
  | none => false) && ((match ty_kt x.1 x.2 ty_cU q.2.2.1 with
  | some b => ty_ent x.1 (ty_pl b 1) || ty_ent x.1 (ty_pl (ty_add k b (-1)) 1)
  | none => false) && ty_zb q x (fun s z => ty_ent x.1 (ty_pl (ty_add z s (-1)) 1) || ty_ent x.1 (ty_pl (ty_add s z (-1)) 1))))
noncomputable def ty_r3 (q : ty_Q) (x : ty_X) : Bool := match ty_kt x.1 x.2 ty_cM (ty_k (ty_sn : Int)) with
  | some n => ty_ent x.1 (ty_add n q.2.2.1 (-1))
  | none => false
noncomputable def ty_t1 (q : ty_Q) (k : ty_t) (x : ty_X) : ty_X := bif ty_r1 q k x then (x.1, ty_put x.1 x.2 (1010, q.2.1, ty_pl q.2.2.1 1, ty_i k)) else x
noncomputable def ty_t2 (q : ty_Q) (k : ty_t) (x : ty_X) : ty_X := bif ty_r3 q x then (x.1, ty_put x.1 x.2 (1011, q.2.1, k, ty_i (ty_k 1))) else x
noncomputable def ty_t3 (q : ty_Q) (k : ty_t) (x : ty_X) : ty_X := bif ty_r2 q k x then (x.1, ty_put x.1 x.2 (1011, q.2.1, k, ty_i (ty_k 0))) else x
noncomputable def ty_t4 (q : ty_Q) (w : ty_t) (x : ty_X) : ty_X := match ty_cst x.1 w with
  | some (.ofNat 1) => (x.1, ty_put x.1 x.2 (1012, q.2.2.1, ty_pl q.2.1 1, ty_z))
  | _ => x
/-- what is known of one: f of its value -/
noncomputable def ty_dv (x : ty_X) (V k : ty_t) (f : ty_t → Bool) : Bool := ex_any (fun r => Nat.beq r.1 1011 && (ty_sm x.1 r.2.1 V && (ty_sm x.1 r.2.2.1 k && (match r.2.2.2 with
  | .inl (.inl z) => f z
  | _ => false)))) x.2
noncomputable def ty_z0 (e : ty_E) (z : ty_t) : Bool := match ty_cst e z with
  | some (.ofNat 0) => true
  | _ => false
noncomputable def ty_t5 (q : ty_Q) (x : ty_X) : ty_X := bif ty_dv x q.2.2.1 q.2.1 (fun _ => true) then (x.1, ty_put x.1 x.2 (1012, q.2.1, ty_pl q.2.2.1 1, ty_z)) else x
noncomputable def ty_t6 (q : ty_Q) (x : ty_X) : ty_X := bif ty_dv x q.2.2.1 q.2.1 (ty_z0 x.1) then (x.1, ty_put x.1 x.2 (1013, q.2.1, ty_pl q.2.2.1 1, ty_z)) else x
noncomputable def ty_t7 (q : ty_Q) (x : ty_X) : ty_X := bif ty_dv x q.2.2.1 q.2.1 (ty_z0 x.1) then (x.1, ty_put x.1 x.2 (1014, q.2.1, ty_pl q.2.2.1 (-1), ty_z)) else x
/-- one there is that fits: not all below are none -/
noncomputable def ty_fe1 (x : ty_X) (k : ty_t) (f : ty_t → Bool) : Option ty_t := List.rec (motive := fun _ => Option ty_t) none (fun r _ ih => bif Nat.beq r.1 1012 && (ty_sm x.1 r.2.1 k && f r.2.2.1) then some r.2.2.1 else ih) x.2
noncomputable def ty_t8 (q : ty_Q) (x : ty_X) : ty_X := match ty_fe1 x q.2.1 (fun _ => true) with
  | some t => (ty_cs1 x.1 (ty_pl (ty_add q.2.2.1 t (-1)) 1), x.2)
  | none => x
noncomputable def ty_t9 (q : ty_Q) (x : ty_X) : ty_X := match ty_fe1 x q.2.1 (fun t => ty_ent x.1 (ty_pl t (-100))) with
  | some _ => (ty_cs1 x.1 (ty_add (ty_k 0) q.2.2.1 (-1)), x.2)
  | none => x
noncomputable def ty_sr2 (q : ty_Q) (x : ty_X) : ty_X := match q.2.2.2 with
  | .inl (.inl w) => bif Nat.beq q.1 1010 then ty_t3 q w (ty_t2 q w (ty_t1 q w x)) else bif Nat.beq q.1 1011 then ty_t4 q w x else x
  | _ => bif Nat.beq q.1 1012 then ty_t5 q x else bif Nat.beq q.1 1013 then ty_t8 q (ty_t6 q x) else bif Nat.beq q.1 1014 then ty_t9 q (ty_t7 q x) else x
noncomputable def ty_pass (l : ty_K) : ty_X → ty_X := List.rec (motive := fun _ => ty_X → ty_X) (fun x => x) (fun q _ ih x => ih (bif Nat.ble 1010 q.1 then ty_sr2 q x else ty_sq q x)) l
noncomputable def ty_satw (K : ty_K) : Bool := ex_any (fun q => (Nat.ble 1000 q.1 && !(Nat.beq q.1 1008 || (Nat.beq q.1 1009 || Nat.beq q.1 1015))) || (Nat.beq q.1 ty_cT.1 || (Nat.beq q.1 ty_cO.1 || Nat.beq q.1 ty_cW.1))) K
noncomputable def ty_sat2 (x : ty_X) : ty_X := ty_pass x.2 x
noncomputable def ty_sat (e : ty_E) (K : ty_K) : ty_E × ty_K := bif ty_satw K then ty_sat2 (ty_sat2 (e, K)) else (e, K)
section TYU
variable {b : Nat} {sa : Nat → Nat} {n : Nat} {ρ : Nat → Int} {ws : va_W}
theorem ty_g2h {q : ty_Q} (h : ty_k1 b sa n ρ ws q) (hl : 1008 ≤ q.1) (hm : q.1 < 1015 := by omega) : ty_g2 n ρ ws q := by
  rcases h with ⟨z, -⟩ | ⟨-, z⟩
  · have : ty_isG q.1 = true := Nat.ble_eq_true_of_le (by omega)
    rw [this] at z; cases z
  · rcases z with z | z
    · rcases z with ⟨e, -⟩ | ⟨e, -⟩ | ⟨e, -⟩ | ⟨e, -⟩ | ⟨e, -⟩ | ⟨e, -⟩ | ⟨e, -⟩ <;> omega
    · rcases z with z | z
      · exact z
      · exact absurd z.1 (by omega)
theorem ty_wk2 : ty_kl[ty_cH.2]? = some ty_cH.1 ∧ ty_kl[ty_cP.2]? = some ty_cP.1 ∧ ty_kl[ty_cI.2]? = some ty_cI.1 ∧ ty_kl[ty_cB.2]? = some ty_cB.1 ∧ ty_kl[ty_cA.2]? = some ty_cA.1 ∧ ty_kl[ty_cU.2]? = some ty_cU.1 ∧ ty_kl[ty_cM.2]? = some ty_cM.1 := by decide +kernel
theorem ty_i32 (x : Int32) : Int32.ofInt x.toInt = x := Int32.ofInt_toInt x
theorem ty_zb_ok {x : ty_X} (h : ty_SO b sa n ρ ws x) {q : ty_Q} {V m : Nat} (h1 : ty_is n ρ q.2.1 (V : Int)) (h2 : ty_is n ρ q.2.2.1 (m : Int)) {f : ty_t → ty_t → Bool} (hb : ty_zb q x f = true) : ∃ s z, ty_is n ρ s (ty_ia ws ty_cI.2 m) ∧ ty_is n ρ z (ty_bt (ty_ia ws ty_cB.2 (21 * V + (ty_ia ws ty_cH.2 m).toNat)) (ty_ia ws ty_cP.2 m)) ∧ f s z = true := by
  unfold ty_zb at hb
  split at hb
  · rename_i th ty ts hh hy hs
    split at hb
    · rename_i X hX
      obtain ⟨b1, b2⟩ := ex_and hb
      have k1 := ty_kt_ok h ty_wk2.1 hh h2
      have k2 := ty_kt_ok h ty_wk2.2.1 hy h2
      have k3 := ty_kt_ok h ty_wk2.2.2.1 hs h2
      have b1 := ty_nn_t b1
      have l1 := (ty_lh h.1 k1.2).1
      have hi : ty_is n ρ (ty_add th q.2.1 21) ((21 * V + (ty_ia ws ty_cH.2 m).toNat : Nat) : Int) := by
        have := ty_is_add k1 h1 21
        exact ⟨this.1, this.2.trans (by omega)⟩
      have k4 := ty_kt_ok h ty_wk2.2.2.2.1 hX hi
      obtain ⟨r, r1, r2⟩ := ty_any_t b2
      obtain ⟨r2, r3⟩ := ex_and r2
      obtain ⟨r3, r4⟩ := ex_and r3
      obtain ⟨r4, r5⟩ := ex_and r4
      have r2 := ex_beq r2
      have hn := h.2.1
      rcases ty_g2h (h.2.2 r r1) (by omega) with ⟨g, -⟩ | ⟨-, x0, y0, v, g1, g2, g3, g4⟩ | ⟨g, -⟩ | ⟨g, -⟩ | ⟨g, -⟩ | ⟨g, -⟩ | ⟨g, -⟩
      · omega
      · rw [g3] at r5
        have e1 := ty_sm_ok h.1 r3 (by rw [hn]; exact g1) (by rw [hn]; exact k4)
        have e2 := ty_sm_ok h.1 r4 (by rw [hn]; exact g2) (by rw [hn]; exact k2)
        refine ⟨ts, v, k3, ?_, r5⟩
        unfold ty_bt
        rw [← e1, ← e2, ty_i32, ty_i32]
        exact g4
      all_goals omega
    · cases hb
  · cases hb
theorem ty_r1_ok {x : ty_X} (h : ty_SO b sa n ρ ws x) {q : ty_Q} {V m : Nat} {tk : ty_t} {k : Int} (h1 : ty_is n ρ q.2.1 (V : Int)) (h2 : ty_is n ρ q.2.2.1 (m : Int)) (hk : ty_is n ρ tk k) (hb : ty_r1 q tk x = true) : ty_rw ws V k m := by
  unfold ty_r1 at hb
  rcases Bool.or_eq_true _ _ |>.mp hb with hb | hb
  · split at hb
    · rename_i a ha
      have k1 := ty_kt_ok h ty_wk2.2.2.2.2.1 ha h2
      have hb := ty_ent_ok h.1 hb
      rw [ty_pl_ev, ty_sub_ev, hk.2, k1.2] at hb
      exact Or.inl (by omega)
    · cases hb
  rcases Bool.or_eq_true _ _ |>.mp hb with hb | hb
  · split at hb
    · rename_i a ha
      have k1 := ty_kt_ok h ty_wk2.2.2.2.2.2.1 ha h2
      obtain ⟨b1, b2⟩ := ex_and hb
      have b1 := ty_ent_ok h.1 b1
      have b2 := ty_ent_ok h.1 b2
      rw [ty_sub_ev, ty_k_ev, k1.2] at b1
      rw [ty_sub_ev, hk.2, k1.2] at b2
      exact Or.inr (Or.inl ⟨by omega, by omega⟩)
    · cases hb
  · obtain ⟨s, z, k1, k2, k3⟩ := ty_zb_ok h h1 h2 hb
    obtain ⟨b1, b2⟩ := ex_and k3
    have b1 := ty_ent_ok h.1 b1
    have b2 := ty_ent_ok h.1 b2
    rw [ty_sub_ev, k1.2, k2.2] at b1
    rw [ty_sub_ev, k1.2, k2.2] at b2
    exact Or.inr (Or.inr (by omega))
theorem ty_r2_ok {x : ty_X} (h : ty_SO b sa n ρ ws x) {q : ty_Q} {V m : Nat} {tk : ty_t} {k : Int} (h1 : ty_is n ρ q.2.1 (V : Int)) (h2 : ty_is n ρ q.2.2.1 (m : Int)) (hk : ty_is n ρ tk k) (hb : ty_r2 q tk x = true) : ¬ ty_ff ws V k := by
  unfold ty_r2 at hb
  obtain ⟨b0, hb⟩ := ex_and hb
  obtain ⟨b1, hb⟩ := ex_and hb
  obtain ⟨b2, b3⟩ := ex_and hb
  have c0 : (m : Int) < ty_ia ws ty_cM.2 ty_sn := by
    split at b0
    · rename_i a ha
      have k1 := ty_kt_ok h ty_wk2.2.2.2.2.2.2 ha (ty_is_k _ _ _)
      have b0 := ty_ent_ok h.1 b0
      rw [ty_pl_ev, ty_sub_ev, h2.2, k1.2] at b0
      omega
    · cases b0
  have c1 : ty_ia ws ty_cA.2 m ≤ k := by
    split at b1
    · rename_i a ha
      have k1 := ty_kt_ok h ty_wk2.2.2.2.2.1 ha h2
      have b1 := ty_ent_ok h.1 b1
      rw [ty_sub_ev, hk.2, k1.2] at b1
      omega
    · cases b1
  have c2 : ty_ia ws ty_cU.2 m < 0 ∨ k < ty_ia ws ty_cU.2 m := by
    split at b2
    · rename_i a ha
      have k1 := ty_kt_ok h ty_wk2.2.2.2.2.2.1 ha h2
      rcases Bool.or_eq_true _ _ |>.mp b2 with b2 | b2
      · have b2 := ty_ent_ok h.1 b2
        rw [ty_pl_ev, k1.2] at b2
        exact Or.inl (by omega)
      · have b2 := ty_ent_ok h.1 b2
        rw [ty_pl_ev, ty_sub_ev, hk.2, k1.2] at b2
        exact Or.inr (by omega)
    · cases b2
  obtain ⟨s, z, k1, k2, k3⟩ := ty_zb_ok h h1 h2 b3
  have c3 : ty_bt (ty_ia ws ty_cB.2 (21 * V + (ty_ia ws ty_cH.2 m).toNat)) (ty_ia ws ty_cP.2 m) ≠ ty_ia ws ty_cI.2 m := by
    rcases Bool.or_eq_true _ _ |>.mp k3 with b | b
    · have b := ty_ent_ok h.1 b
      rw [ty_pl_ev, ty_sub_ev, k1.2, k2.2] at b
      omega
    · have b := ty_ent_ok h.1 b
      rw [ty_pl_ev, ty_sub_ev, k1.2, k2.2] at b
      omega
  intro hf
  rcases hf m c0 with d | d | d
  · omega
  · omega
  · exact c3 d
theorem ty_t123_ok {x : ty_X} (h : ty_SO b sa n ρ ws x) {q : ty_Q} (hq : ty_k1 b sa n ρ ws q) (h0 : q.1 = 1010) {w : ty_t} (hw : q.2.2.2 = ty_i w) : ty_SO b sa n ρ ws (ty_t3 q w (ty_t2 q w (ty_t1 q w x))) := by
  rcases ty_g2h hq (by omega) with ⟨g, -⟩ | ⟨g, -⟩ | ⟨-, V, m, v, k, h1, h2, h3, h4, h5⟩ | ⟨g, -⟩ | ⟨g, -⟩ | ⟨g, -⟩ | ⟨g, -⟩
  · omega
  · omega
  · rw [hw] at h3
    injection h3 with h3
    injection h3 with h3
    subst h3
    have s1 : ty_SO b sa n ρ ws (ty_t1 q w x) := by
      unfold ty_t1
      cases hb : ty_r1 q w x with
      | false => exact h
      | true =>
        have g := ty_r1_ok h h1 h2 h4 hb
        refine h.put2 ⟨rfl, Or.inr (Or.inr (Or.inl ⟨rfl, V, m + 1, w, k, h1, ?_, rfl, h4, fun j hj => ?_⟩))⟩
        · have := ty_is_pl h2 1
          exact ⟨this.1, this.2.trans (by omega)⟩
        · by_cases e : j = m
          · subst e
            exact g
          · exact h5 j (by omega)
    have s2 : ty_SO b sa n ρ ws (ty_t2 q w (ty_t1 q w x)) := by
      unfold ty_t2
      cases hb : ty_r3 q (ty_t1 q w x) with
      | false => exact s1
      | true =>
        refine s1.put2 ⟨rfl, Or.inr (Or.inr (Or.inr (Or.inl ⟨rfl, V, k, ty_k 1, 1, h1, h4, rfl, ty_is_k _ _ _, fun _ j hj => ?_, fun z => absurd z (by decide)⟩)))⟩
        unfold ty_r3 at hb
        split at hb
        · rename_i a ha
          have k1 := ty_kt_ok s1 ty_wk2.2.2.2.2.2.2 ha (ty_is_k _ _ _)
          have hb := ty_ent_ok s1.1 hb
          rw [ty_sub_ev, h2.2, k1.2] at hb
          exact h5 j (by omega)
        · cases hb
    unfold ty_t3
    cases hb : ty_r2 q w (ty_t2 q w (ty_t1 q w x)) with
    | false => exact s2
    | true => exact s2.put2 ⟨rfl, Or.inr (Or.inr (Or.inr (Or.inl ⟨rfl, V, k, ty_k 0, 0, h1, h4, rfl, ty_is_k _ _ _, fun z => absurd z (by decide), fun _ => ty_r2_ok s2 h1 h2 h4 hb⟩)))⟩
  all_goals omega
theorem ty_t4_ok {x : ty_X} (h : ty_SO b sa n ρ ws x) {q : ty_Q} (hq : ty_k1 b sa n ρ ws q) (h0 : q.1 = 1011) {w : ty_t} (hw : q.2.2.2 = ty_i w) : ty_SO b sa n ρ ws (ty_t4 q w x) := by
  rcases ty_g2h hq (by omega) with ⟨g, -⟩ | ⟨g, -⟩ | ⟨g, -⟩ | ⟨-, V, k, v, z, h1, h2, h3, h4, h5, h6⟩ | ⟨g, -⟩ | ⟨g, -⟩ | ⟨g, -⟩
  · omega
  · omega
  · omega
  · rw [hw] at h3
    injection h3 with h3
    injection h3 with h3
    subst h3
    unfold ty_t4
    split
    · rename_i hc
      have e1 := ty_cst_ok h.1 hc
      rw [h4.2] at e1
      refine h.put2 ⟨rfl, Or.inr (Or.inr (Or.inr (Or.inr (Or.inl ⟨rfl, k, V + 1, h2, ?_, V, by omega, h5 e1⟩))))⟩
      have := ty_is_pl h1 1
      exact ⟨this.1, this.2.trans (by omega)⟩
    · exact h
  all_goals omega
theorem ty_dv_ok {x : ty_X} (h : ty_SO b sa n ρ ws x) {tV tk : ty_t} {f : ty_t → Bool} (hb : ty_dv x tV tk f = true) {V k : Int} (h1 : ty_is n ρ tV V) (h2 : ty_is n ρ tk k) : ∃ (W : Nat) (v : ty_t) (z : Int), V = (W : Int) ∧ ty_is n ρ v z ∧ f v = true ∧ (z = 1 → ty_ff ws W k) ∧ (z = 0 → ¬ ty_ff ws W k) := by
  obtain ⟨r, r1, r2⟩ := ty_any_t hb
  obtain ⟨r2, r3⟩ := ex_and r2
  obtain ⟨r3, r4⟩ := ex_and r3
  obtain ⟨r4, r5⟩ := ex_and r4
  have r2 := ex_beq r2
  have hn := h.2.1
  rcases ty_g2h (h.2.2 r r1) (by omega) with ⟨g, -⟩ | ⟨g, -⟩ | ⟨g, -⟩ | ⟨-, W, k', v, z, g1, g2, g3, g4, g5, g6⟩ | ⟨g, -⟩ | ⟨g, -⟩ | ⟨g, -⟩
  · omega
  · omega
  · omega
  · rw [g3] at r5
    have e1 := ty_sm_ok h.1 r3 (by rw [hn]; exact g1) (by rw [hn]; exact h1)
    have e2 := ty_sm_ok h.1 r4 (by rw [hn]; exact g2) (by rw [hn]; exact h2)
    subst e2
    exact ⟨W, v, z, e1.symm, g4, r5, g5, g6⟩
  all_goals omega
theorem ty_z0_ok {e : ty_E} (he : ty_er ρ e) {z : ty_t} {y : Int} (hz : ty_ev ρ z = y) (h : ty_z0 e z = true) : y = 0 := by
  unfold ty_z0 at h
  split at h
  · rename_i hc
    have := ty_cst_ok he hc
    rw [hz] at this
    exact this
  · cases h
theorem ty_t5_ok {x : ty_X} (h : ty_SO b sa n ρ ws x) {q : ty_Q} (hq : ty_k1 b sa n ρ ws q) (h0 : q.1 = 1012) : ty_SO b sa n ρ ws (ty_t5 q x) := by
  rcases ty_g2h hq (by omega) with ⟨g, -⟩ | ⟨g, -⟩ | ⟨g, -⟩ | ⟨g, -⟩ | ⟨-, k, u, h1, h2, V, h3, h4⟩ | ⟨g, -⟩ | ⟨g, -⟩
  · omega
  · omega
  · omega
  · omega
  · unfold ty_t5
    cases ty_dv x q.2.2.1 q.2.1 (fun _ => true) with
    | false => exact h
    | true =>
      refine h.put2 ⟨rfl, Or.inr (Or.inr (Or.inr (Or.inr (Or.inl ⟨rfl, k, u + 1, h1, ?_, V, by omega, h4⟩))))⟩
      have := ty_is_pl h2 1
      exact ⟨this.1, this.2.trans (by omega)⟩
  all_goals omega
theorem ty_fe1_ok {x : ty_X} (h : ty_SO b sa n ρ ws x) {tk : ty_t} {k : Int} (hk : ty_is n ρ tk k) {f : ty_t → Bool} {t : ty_t} (hf : ty_fe1 x tk f = some t) : f t = true ∧ ∃ u : Nat, ty_is n ρ t (u : Int) ∧ ∃ V, V < u ∧ ty_ff ws V k := by
  have key : ∀ l : ty_K, (∀ r ∈ l, r ∈ x.2) → List.rec (motive := fun _ => Option ty_t) none (fun r _ ih => bif Nat.beq r.1 1012 && (ty_sm x.1 r.2.1 tk && f r.2.2.1) then some r.2.2.1 else ih) l = some t → f t = true ∧ ∃ u : Nat, ty_is n ρ t (u : Int) ∧ ∃ V, V < u ∧ ty_ff ws V k := by
    intro l
    induction l with
    | nil => intro _ h; cases h
    | cons r l ih =>
      intro hl hr
      rcases ex_bif (P := fun z => z = some t) hr with ⟨r2, r6⟩ | ⟨-, r6⟩
      · injection r6 with r6
        subst r6
        obtain ⟨r2, r3⟩ := ex_and r2
        obtain ⟨r3, r4⟩ := ex_and r3
        have r2 := ex_beq r2
        have hn := h.2.1
        rcases ty_g2h (h.2.2 r (hl r List.mem_cons_self)) (by omega) with ⟨g, -⟩ | ⟨g, -⟩ | ⟨g, -⟩ | ⟨g, -⟩ | ⟨-, k', u, g1, g2, g3⟩ | ⟨g, -⟩ | ⟨g, -⟩
        · omega
        · omega
        · omega
        · omega
        · have e2 := ty_sm_ok h.1 r3 (by rw [hn]; exact g1) (by rw [hn]; exact hk)
          subst e2
          exact ⟨r4, u, g2, g3⟩
        all_goals omega
      · exact ih (fun r hr => hl r (List.mem_cons_of_mem _ hr)) r6
  exact key x.2 (fun _ h => h) hf
theorem ty_t68_ok {x : ty_X} (h : ty_SO b sa n ρ ws x) {q : ty_Q} (hq : ty_k1 b sa n ρ ws q) (h0 : q.1 = 1013) : ty_SO b sa n ρ ws (ty_t8 q (ty_t6 q x)) := by
  rcases ty_g2h hq (by omega) with ⟨g, -⟩ | ⟨g, -⟩ | ⟨g, -⟩ | ⟨g, -⟩ | ⟨g, -⟩ | ⟨-, k, u, h1, h2, h3⟩ | ⟨g, -⟩
  · omega
  · omega
  · omega
  · omega
  · omega
  · have s1 : ty_SO b sa n ρ ws (ty_t6 q x) := by
      unfold ty_t6
      cases hb : ty_dv x q.2.2.1 q.2.1 (ty_z0 x.1) with
      | false => exact h
      | true =>
        obtain ⟨W, v, z, d1, d2, d3, d4, d5⟩ := ty_dv_ok h hb h2 h1
        have d6 := d5 (ty_z0_ok h.1 d2.2 d3)
        refine h.put2 ⟨rfl, Or.inr (Or.inr (Or.inr (Or.inr (Or.inr (Or.inl ⟨rfl, k, u + 1, h1, ?_, fun V hV => ?_⟩)))))⟩
        · have := ty_is_pl h2 1
          exact ⟨this.1, this.2.trans (by omega)⟩
        · by_cases e : V = u
          · have : V = W := by omega
            subst this
            exact d6
          · exact h3 V (by omega)
    unfold ty_t8
    split
    · rename_i t ht
      obtain ⟨-, u', f1, V, f2, f3⟩ := ty_fe1_ok s1 h1 ht
      have : ¬ V < u := fun hV => h3 V hV f3
      exact s1.cs (t := ty_pl (ty_add q.2.2.1 t (-1)) 1) (ty_pl_sc (ty_add_sc h2.1 f1.1)) (by rw [ty_pl_ev, ty_sub_ev, h2.2, f1.2]; omega)
    · exact s1
  · omega
theorem ty_t79_ok {x : ty_X} (h : ty_SO b sa n ρ ws x) {q : ty_Q} (hq : ty_k1 b sa n ρ ws q) (h0 : q.1 = 1014) : ty_SO b sa n ρ ws (ty_t9 q (ty_t7 q x)) := by
  rcases ty_g2h hq (by omega) with ⟨g, -⟩ | ⟨g, -⟩ | ⟨g, -⟩ | ⟨g, -⟩ | ⟨g, -⟩ | ⟨g, -⟩ | ⟨-, k, u, h1, h2, h3⟩
  · omega
  · omega
  · omega
  · omega
  · omega
  · omega
  · have s1 : ty_SO b sa n ρ ws (ty_t7 q x) := by
      unfold ty_t7
      cases hb : ty_dv x q.2.2.1 q.2.1 (ty_z0 x.1) with
      | false => exact h
      | true =>
        obtain ⟨W, v, z, d1, d2, d3, d4, d5⟩ := ty_dv_ok h hb h2 h1
        have d6 := d5 (ty_z0_ok h.1 d2.2 d3)
        refine h.put2 ⟨rfl, Or.inr (Or.inr (Or.inr (Or.inr (Or.inr (Or.inr ⟨rfl, k, u + -1, h1, ty_is_pl h2 (-1), fun V hV h99 => ?_⟩)))))⟩
        by_cases e : V = W
        · subst e
          exact d6
        · exact h3 V (by omega) h99
    unfold ty_t9
    split
    · rename_i t ht
      obtain ⟨f0, u', f1, V, f2, f3⟩ := ty_fe1_ok s1 h1 ht
      have f0 := ty_ent_ok s1.1 f0
      rw [ty_pl_ev, f1.2] at f0
      have : ¬ u < (V : Int) := fun hV => h3 V hV (by omega) f3
      exact s1.cs (t := ty_add (ty_k 0) q.2.2.1 (-1)) (ty_add_sc ty_k_sc h2.1) (by rw [ty_sub_ev, ty_k_ev, h2.2]; omega)
    · exact s1
theorem ty_sr2_ok {x : ty_X} (h : ty_SO b sa n ρ ws x) {q : ty_Q} (hq : ty_k1 b sa n ρ ws q) : ty_SO b sa n ρ ws (ty_sr2 q x) := by
  unfold ty_sr2
  split
  · rename_i w hw
    cases h1 : Nat.beq q.1 1010 with
    | true => exact ty_t123_ok h hq (ex_beq h1) hw
    | false =>
    cases h2 : Nat.beq q.1 1011 with
    | true => exact ty_t4_ok h hq (ex_beq h2) hw
    | false => exact h
  · cases h1 : Nat.beq q.1 1012 with
    | true => exact ty_t5_ok h hq (ex_beq h1)
    | false =>
    cases h2 : Nat.beq q.1 1013 with
    | true => exact ty_t68_ok h hq (ex_beq h2)
    | false =>
    cases h3 : Nat.beq q.1 1014 with
    | true => exact ty_t79_ok h hq (ex_beq h3)
    | false => exact h
theorem ty_pass_ok (hr : ∀ i, ty_ia ws ty_cW.2 i ≤ 8) : ∀ (l : ty_K) {x : ty_X}, ty_SO b sa n ρ ws x → (∀ q ∈ l, ty_k1 b sa n ρ ws q) → ty_SO b sa n ρ ws (ty_pass l x)
  | [], _, h, _ => h
  | q :: l, x, h, hq => by
    have hs : ty_SO b sa n ρ ws (bif Nat.ble 1010 q.1 then ty_sr2 q x else ty_sq q x) := by
      cases Nat.ble 1010 q.1 with
      | true => exact ty_sr2_ok h (hq q List.mem_cons_self)
      | false => exact ty_sq_ok h hr (hq q List.mem_cons_self)
    exact ty_pass_ok hr l hs (fun r hr' => hq r (List.mem_cons_of_mem _ hr'))
theorem ty_sat_ok {tys : List (ClassId × FieldType)} {e : ty_E} {K : ty_K} (hth : ty_th tys ws) (he : ty_er ρ e) (hK : ty_Kr b sa e.1 ρ ws K) : ty_er ρ (ty_sat e K).1 ∧ (ty_sat e K).1.1 = e.1 ∧ ty_Kr b sa e.1 ρ ws (ty_sat e K).2 := by
  have h : ty_SO b sa e.1 ρ ws (e, K) := ⟨he, rfl, hK⟩
  have hp : ∀ x : ty_X, ty_SO b sa e.1 ρ ws x → ty_SO b sa e.1 ρ ws (ty_sat2 x) := fun x hx => ty_pass_ok (ty_w8 hth) x.2 hx hx.2.2
  unfold ty_sat
  cases ty_satw K with
  | false => exact h
  | true => exact hp _ (hp _ h)
end TYU
