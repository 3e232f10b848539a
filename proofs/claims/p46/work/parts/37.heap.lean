/-! cells: what is read of them, what is written -/
theorem ty_lg (x : Int64) : -9223372036854775808 ≤ x.toInt ∧ x.toInt ≤ 9223372036854775807 := by
  have h := x.toBitVec.isLt
  have e : x.toInt = x.toBitVec.toInt := rfl
  rw [e, BitVec.toInt_eq_toNat_cond]
  split <;> omega
noncomputable def ty_krc (l : List Nat) (j : Int) : Bool := List.rec (motive := fun _ => Int → Bool) (fun _ => true) (fun k _ ih j => ty_fc j (fun j => (match ex_nth ty_kr k with
  | some p => ty_le p.1 j && ty_le j p.2
  | none => false) && ih (j + 1))) l j
theorem ty_krc_ok : ∀ (l : List Nat) (j : Int), ty_krc l j = true → ∀ (i k : Nat), l[i]? = some k → ∃ p, ex_nth ty_kr k = some p ∧ p.1 ≤ j + (i : Int) ∧ j + (i : Int) ≤ p.2
  | [], _, _, i, k, hi => by cases hi
  | a :: t, j, h, i, k, hi => by
    have h : ty_fc j (fun j => (match ex_nth ty_kr a with
      | some p => ty_le p.1 j && ty_le j p.2
      | none => false) && ty_krc t (j + 1)) = true := h
    rw [ty_fc_eq] at h
    obtain ⟨h1, h2⟩ := ex_and h
    cases i with
    | zero =>
      cases hi
      split at h1
      · rename_i p hp
        obtain ⟨h3, h4⟩ := ex_and h1
        exact ⟨p, hp, by have := ty_le_t h3; omega, by have := ty_le_t h4; omega⟩
      · cases h1
    | succ i =>
      obtain ⟨p, p1, p2, p3⟩ := ty_krc_ok t (j + 1) h2 i k (by rw [List.getElem?_cons_succ] at hi; exact hi)
      exact ⟨p, p1, by omega, by omega⟩
theorem ty_kr_all : ty_krc ty_kl 0 = true := by decide +kernel
theorem ty_kr_ok {j k : Nat} (h : ty_kl[j]? = some k) : ∃ p, ex_nth ty_kr k = some p ∧ p.1 ≤ (j : Int) ∧ (j : Int) ≤ p.2 := by
  obtain ⟨p, p1, p2, p3⟩ := ty_krc_ok ty_kl 0 ty_kr_all j k h
  exact ⟨p, p1, by omega, by omega⟩
theorem ty_kl_all : ty_kl.all (fun k => Nat.ble k 999) = true := by decide +kernel
theorem ty_kl_nG {j k : Nat} (h : ty_kl[j]? = some k) : ty_isG k = false := by
  have h1 := ex_ble (List.all_eq_true.mp ty_kl_all k (List.mem_of_getElem? h))
  cases hb : ty_isG k with
  | false => rfl
  | true => have := ex_ble hb; omega
theorem ty_any_i {α : Type} {f : α → Bool} : ∀ {l : List α} {a : α}, a ∈ l → f a = true → ex_any f l = true
  | [], _, h, _ => by cases h
  | x :: t, a, h, hf => by
    show (f x || ex_any f t) = true
    rcases List.mem_cons.mp h with rfl | h
    · rw [hf]; rfl
    · rw [ty_any_i h hf, Bool.or_true]
theorem ty_al_n {ms : ty_M} {k : Nat} (h : ty_al ms k none = true) (i : Nat) : ty_al ms k (some i) = true := by
  obtain ⟨q, h1, h2⟩ := ty_any_t h
  obtain ⟨q1, q2⟩ := q
  cases q2 with
  | none => exact ty_any_i h1 h2
  | some z =>
    obtain ⟨h3, h4⟩ := ex_and h2
    cases (show false = true from h4)
section TYH
variable {b : Nat} {sa : Nat → Nat} {ρ : Nat → Int} {tys : List (ClassId × FieldType)} {ws : va_W} {e : ty_E} {K : ty_K}
theorem ty_nv_ok {f : ty_F} {x : Value} {e' : ty_E} {v : ty_V} (h : ty_er ρ e) (hf : ty_fo ws f x) (hn : ty_nv e f = some (e', v)) : ∃ ρ', ty_ag e.1 ρ ρ' ∧ ty_er ρ' e' ∧ e.1 ≤ e'.1 ∧ ty_vr b sa e'.1 ρ' ws v x := by
  rcases f with ⟨l, u⟩ | _ | k
  · obtain ⟨y, rfl, h1, h2⟩ := hf
    have hn : some (ty_fr e l u [], ty_i (ty_s e.1)) = some (e', v) := hn
    cases hn
    obtain ⟨ρ', a1, a2, a3, a4⟩ := ty_res0 h h1 h2
    exact ⟨ρ', a1, a2, a3, y, rfl, a4⟩
  · obtain ⟨y, rfl⟩ := hf
    have hn : some (ty_fr e (-9223372036854775808) 9223372036854775807 [], ty_j (ty_s e.1)) = some (e', v) := hn
    cases hn
    obtain ⟨ρ', a1, a2, a3, a4⟩ := ty_res0 h (ty_lg y).1 (ty_lg y).2
    exact ⟨ρ', a1, a2, a3, y, rfl, a4⟩
  · obtain ⟨j, a, ev, h1, h2, rfl⟩ := hf
    obtain ⟨⟨l, u⟩, g1, g2, g3⟩ := ty_kr_ok h1
    dsimp only at g2 g3
    have hn : (match ex_nth ty_kr k with
      | some (l, h) => bif ty_le h l then some (e, ty_r k (ty_k l)) else some (ty_fr e l h [], ty_r k (ty_s e.1))
      | none => none) = some (e', v) := hn
    rw [g1] at hn
    rcases ex_bif (P := fun z => z = some (e', v)) hn with ⟨c1, c2⟩ | ⟨c1, c2⟩
    · cases c2
      have c1 := ty_le_t c1
      have ej : l = (j : Int) := by omega
      exact ⟨ρ, fun _ _ => rfl, h, Nat.le_refl _, j, a, ev, (by rw [ej]; exact ty_is_k _ _ _), h1, h2, rfl⟩
    · cases c2
      obtain ⟨ρ', a1, a2, a3, a4⟩ := ty_res0 h g2 g3
      exact ⟨ρ', a1, a2, a3, j, a, ev, a4, h1, h2, rfl⟩
theorem ty_sm_ok (h : ty_er ρ e) {t u : ty_t} {x y : Int} (hs : ty_sm e t u = true) (ht : ty_is e.1 ρ t x) (hu : ty_is e.1 ρ u y) : x = y := by
  obtain ⟨h1, h2⟩ := ex_and hs
  have h1 := ty_nn_t h1
  have h2 := ty_nn_t h2
  have h3 := ty_hi_ok h.1 (ty_add t u (-1))
  have h4 := ty_lo_ok h.1 (ty_add t u (-1))
  rw [ty_sub_ev, ht.2, hu.2] at h3 h4
  omega
theorem ty_df_ok (h : ty_er ρ e) {t u : ty_t} {x y : Int} (hs : ty_df e t u = true) (ht : ty_is e.1 ρ t x) (hu : ty_is e.1 ρ u y) : x ≠ y := by
  have h3 := ty_hi_ok h.1 (ty_add t u (-1))
  have h4 := ty_lo_ok h.1 (ty_add t u (-1))
  rw [ty_sub_ev, ht.2, hu.2] at h3 h4
  rcases Bool.or_eq_true _ _ |>.mp hs with h1 | h1
  · have h1 := ty_le_t h1
    omega
  · have h1 := ty_le_t h1
    omega
theorem ty_kf_ok {k : Nat} {c sl : ty_t} {v : ty_V} : ∀ {K : ty_K}, ty_kf e K k c sl = some v → ∃ q ∈ K, q.1 = k ∧ ty_sm e q.2.2.1 sl = true ∧ ty_sm e q.2.1 c = true ∧ q.2.2.2 = v
  | [], h => by cases h
  | p :: t, h => by
    rcases ex_bif (P := fun z => z = some v) (show (bif Nat.beq p.1 k && ty_sm e p.2.2.1 sl && ty_sm e p.2.1 c then some p.2.2.2 else ty_kf e t k c sl) = some v from h) with ⟨h1, h2⟩ | ⟨h1, h2⟩
    · obtain ⟨h1, h5⟩ := ex_and h1
      obtain ⟨h3, h4⟩ := ex_and h1
      injection h2 with h2
      exact ⟨p, List.mem_cons_self, ex_beq h3, h4, h5, h2⟩
    · obtain ⟨q, q1, q2⟩ := ty_kf_ok h2
      exact ⟨q, List.mem_cons_of_mem _ q1, q2⟩
theorem ty_rd_ok (h : ty_er ρ e) (hK : ty_Kr b sa e.1 ρ ws K) {k j i a : Nat} {ev : va_E} {x : Value} {f : ty_F} {c sl : ty_t} {keep : Bool} (hc : ty_is e.1 ρ c (j : Int)) (hi : ty_is e.1 ρ sl (i : Int)) (hk : ty_kl[j]? = some k) (hj : ws[j]? = some (a, ev)) (hx : ty_sl ev i = some x) (hf : ty_fo ws f x) {e' : ty_E} {K' : ty_K} {v : ty_V} (hr : ty_rd e K k c sl f keep = some (e', K', v)) : ∃ ρ', ty_ag e.1 ρ ρ' ∧ ty_er ρ' e' ∧ e.1 ≤ e'.1 ∧ ty_Kr b sa e'.1 ρ' ws K' ∧ ty_vr b sa e'.1 ρ' ws v x := by
  unfold ty_rd at hr
  split at hr
  · rename_i w hw
    cases hr
    obtain ⟨q, q1, q2, q3, q4, q5⟩ := ty_kf_ok hw
    have hnG : ty_isG q.1 = false := by rw [q2]; exact ty_kl_nG hk
    obtain ⟨j', i', a', ev', x', g1, g2, g3, g4, g5, g6, g7⟩ : ∃ (j i a : Nat) (ev : va_E) (x : Value), ty_is e.1 ρ q.2.1 (j : Int) ∧ ty_is e.1 ρ q.2.2.1 (i : Int) ∧ ty_kl[j]? = some q.1 ∧ ws[j]? = some (a, ev) ∧ ty_sl ev i = some x ∧ ty_isK q.2.2.2 = true ∧ ty_vr b sa e.1 ρ ws q.2.2.2 x := by
      rcases hK q q1 with ⟨-, z⟩ | ⟨z, -⟩
      · exact z
      · rw [hnG] at z; cases z
    have e1 := ty_sm_ok h q4 g1 hc
    have e2 := ty_sm_ok h q3 g2 hi
    have e1 : j' = j := by omega
    have e2 : i' = i := by omega
    subst e1
    subst e2
    obtain ⟨rfl, rfl⟩ := ty_at hj g4
    rw [hx] at g5
    cases g5
    rw [q5] at g7
    exact ⟨ρ, fun _ _ => rfl, h, Nat.le_refl _, hK, g7⟩
  · split at hr
    · rename_i e1 v1 hnv
      cases hr
      obtain ⟨ρ', a1, a2, a3, a4⟩ := ty_nv_ok (b := b) (sa := sa) h hf hnv
      refine ⟨ρ', a1, a2, a3, ?_, a4⟩
      have hK1 := hK.mono a1 a3
      cases hb : (keep && ty_isK v) with
      | false => exact hK1
      | true =>
        intro q hq
        have hq : q ∈ (k, c, sl, v) :: K := hq
        rcases List.mem_cons.mp hq with rfl | hq
        · exact Or.inl ⟨ty_kl_nG hk, j, i, a, ev, x, hc.mono a1 a3, hi.mono a1 a3, hk, hj, hx, (ex_and hb).2, a4⟩
        · exact hK1 q hq
    · cases hr
theorem ty_kw_m {k : Nat} {sl : Option ty_t} {q : Nat × ty_t × ty_t × ty_V} : ∀ {K : ty_K}, q ∈ ty_kw e K k sl → q ∈ K ∧ ty_kd e k sl q = false
  | [], h => by cases h
  | p0 :: t, h => by
    have h : q ∈ (bif ty_kd e k sl p0 then ty_kw e t k sl else p0 :: ty_kw e t k sl) := h
    cases hb : ty_kd e k sl p0 with
    | true =>
      rw [hb] at h
      have ih := ty_kw_m (K := t) h
      exact ⟨List.mem_cons_of_mem _ ih.1, ih.2⟩
    | false =>
      rw [hb] at h
      rcases List.mem_cons.mp (show q ∈ p0 :: ty_kw e t k sl from h) with rfl | h
      · exact ⟨List.mem_cons_self, hb⟩
      · have ih := ty_kw_m (K := t) h
        exact ⟨List.mem_cons_of_mem _ ih.1, ih.2⟩
theorem ty_wt_f {g k : Nat} (h : ty_wt g k = false) : ∀ p ∈ ty_wc g, p.1 ≠ k := fun p hp e => by
  have : ty_wt g k = true := ty_any_i hp (by rw [e]; exact Nat.beq_refl k)
  rw [this] at h
  cases h
/-- an entry of which nothing is written -/
theorem ty_k1.far {q : Nat × ty_t × ty_t × ty_V} (h : ty_k1 b sa e.1 ρ ws q) {j k a : Nat} {ev ev' : va_E} (hk : ty_kl[j]? = some k) (hj : ws[j]? = some (a, ev)) (hne : ty_isG q.1 = false → ∀ i : Nat, ty_is e.1 ρ q.2.1 (j : Int) → ty_is e.1 ρ q.2.2.1 (i : Int) → ty_kl[j]? = some q.1 → ty_sl ev' i = ty_sl ev i) (hg : ty_isG q.1 = true → ty_gh sa e.1 ρ ws q → ty_gh sa e.1 ρ (ws.set j (a, ev')) q) : ty_k1 b sa e.1 ρ (ws.set j (a, ev')) q := by
  have hx : ex_xt ws (ws.set j (a, ev')) := ex_xt.set hj
  rcases h with ⟨h0, j', i, a', ev1, x, h1, h2, h3, h4, h5, h6, h7⟩ | ⟨h0, h1⟩
  · have h7' := h7.mono (ρ' := ρ) (fun _ _ => rfl) (Nat.le_refl e.1) hx
    by_cases z : j = j'
    · subst z
      obtain ⟨rfl, rfl⟩ := ty_at hj h4
      exact Or.inl ⟨h0, j, i, a, ev', x, h1, h2, h3, by rw [List.getElem?_set_self (List.getElem?_eq_some_iff.mp hj).1], (hne h0 i h1 h2 h3).trans h5, h6, h7'⟩
    · exact Or.inl ⟨h0, j', i, a', ev1, x, h1, h2, h3, by rw [List.getElem?_set_ne z]; exact h4, h5, h6, h7'⟩
  · exact Or.inr ⟨h0, hg h0 h1⟩
theorem ty_gh.nw {q : Nat × ty_t × ty_t × ty_V} (h : ty_gh sa e.1 ρ ws q) {j k a : Nat} {ev ev' : va_E} (hk : ty_kl[j]? = some k) (hj : ws[j]? = some (a, ev)) (hw : ty_wt q.1 k = false) : ty_gh sa e.1 ρ (ws.set j (a, ev')) q := h.cg (fun p hp i => ty_ia_put hj (fun z => by
  have h1 := ty_wc_kl q.1 p hp
  rw [z, hk] at h1
  injection h1 with h1
  exact absurd h1.symm (ty_wt_f hw p hp)))
theorem ty_Kr.putn (hK : ty_Kr b sa e.1 ρ ws K) {j k a : Nat} {ev ev' : va_E} (hk : ty_kl[j]? = some k) (hj : ws[j]? = some (a, ev)) : ty_Kr b sa e.1 ρ (ws.set j (a, ev')) (ty_kw e K k none) := fun q hq => by
  obtain ⟨h1, h2⟩ := ty_kw_m hq
  refine (hK q h1).far hk hj (fun hG i _ _ h => ?_) (fun hG hg => ?_)
  · unfold ty_kd at h2
    rw [hG] at h2
    have h2 : (Nat.beq q.1 k && true) = false := h2
    rw [hk] at h
    injection h with h
    rw [h, Nat.beq_refl] at h2
    cases h2
  · unfold ty_kd at h2
    rw [hG] at h2
    have h2 : (ty_wt q.1 k && true) = false := h2
    rw [Bool.and_true] at h2
    exact hg.nw hk hj h2
theorem ty_Kr.puts (he : ty_er ρ e) (hK : ty_Kr b sa e.1 ρ ws K) {j k a i0 : Nat} {ev ev' : va_E} {u : ty_t} (hk : ty_kl[j]? = some k) (hj : ws[j]? = some (a, ev)) (hu : ty_is e.1 ρ u (i0 : Int)) (hs : ∀ i, i ≠ i0 → ty_sl ev' i = ty_sl ev i) : ty_Kr b sa e.1 ρ (ws.set j (a, ev')) (ty_kw e K k (some u)) := fun q hq => by
  obtain ⟨h1, h2⟩ := ty_kw_m hq
  refine (hK q h1).far hk hj (fun hG i _ hi h => ?_) (fun hG hg => ?_)
  · unfold ty_kd at h2
    rw [hG] at h2
    have h2 : (Nat.beq q.1 k && !(ty_df e q.2.2.1 u)) = false := h2
    rw [hk] at h
    injection h with h
    rw [h, Nat.beq_refl] at h2
    cases hd : ty_df e q.2.2.1 u with
    | true =>
      have := ty_df_ok he hd hi hu
      exact hs i (by omega)
    | false => rw [hd] at h2; cases h2
  · unfold ty_kd at h2
    rw [hG] at h2
    have h2 : (ty_wt q.1 k && !(ty_gk e q k u)) = false := h2
    cases hw : ty_wt q.1 k with
    | false => exact hg.nw hk hj hw
    | true =>
      rw [hw] at h2
      cases hd : ty_gk e q k u with
      | false => rw [hd] at h2; cases h2
      | true =>
        refine hg.wr he hu hd (fun p hp i hi => ty_ia_put hj (fun z => hs i (hi ?_)))
        have h3 := ty_wc_kl q.1 p hp
        rw [z, hk] at h3
        injection h3 with h3
        exact h3.symm
theorem ty_Kr.cons (hK : ty_Kr b sa e.1 ρ ws K) {j k a i0 : Nat} {ev : va_E} {c u : ty_t} {v : ty_V} {x : Value} (hk : ty_kl[j]? = some k) (hj : ws[j]? = some (a, ev)) (hc : ty_is e.1 ρ c (j : Int)) (hu : ty_is e.1 ρ u (i0 : Int)) (hx : ty_sl ev i0 = some x) (hv : ty_vr b sa e.1 ρ ws v x) (hI : ty_isK v = true) : ty_Kr b sa e.1 ρ ws ((k, c, u, v) :: K) := fun q hq => by
  rcases List.mem_cons.mp hq with rfl | hq
  · exact Or.inl ⟨ty_kl_nG hk, j, i0, a, ev, x, hc, hu, hk, hj, hx, hI, hv⟩
  · exact hK q hq
theorem ty_th.obj (h : ty_th tys ws) {j k a ci : Nat} {ev : va_E} {fs : List ty_F} (hk : ty_kl[j]? = some k) (hj : ws[j]? = some (a, ev)) (hc : ex_nth ty_ct k = some (.inl (ci, fs))) : ty_ct[k]? = some (.inl (ci, fs)) ∧ ∃ vs : List Value, ev = .inr (ci, vs) ∧ ∀ (i : Nat) (f : ty_F), fs[i]? = some f → ∃ x, vs[i]? = some x ∧ ty_fo ws f x := by
  obtain ⟨a', ev', c, h1, h2, h3⟩ := h j k hk
  obtain ⟨rfl, rfl⟩ := ty_at hj h1
  rw [ex_nth_get] at hc
  refine ⟨hc, ?_⟩
  rw [h2] at hc
  injection hc with hc
  subst hc
  rcases ev with w | w
  · exact h3.elim
  · obtain ⟨h4, h5⟩ := h3
    obtain ⟨w1, w2⟩ := w
    dsimp only at h4 h5
    subst h4
    exact ⟨w2, rfl, h5⟩
theorem ty_th.arr (h : ty_th tys ws) {j k a t N : Nat} {ev : va_E} {f : ty_F} (hk : ty_kl[j]? = some k) (hj : ws[j]? = some (a, ev)) (hc : ex_nth ty_ct k = some (.inr (t, N, f))) : ty_ct[k]? = some (.inr (t, N, f)) ∧ ∃ (cA : ClassId) (ar : vp_A), ev = .inl (cA, ar) ∧ (cA, ex_ty t) ∈ tys ∧ t ≤ 4 ∧ ar.1 = N ∧ ex_ak t ar ∧ ∀ i, i < N → ty_fo ws f (ex_ag ar i) := by
  obtain ⟨a', ev', c, h1, h2, h3⟩ := h j k hk
  obtain ⟨rfl, rfl⟩ := ty_at hj h1
  rw [ex_nth_get] at hc
  refine ⟨hc, ?_⟩
  rw [h2] at hc
  injection hc with hc
  subst hc
  rcases ev with w | w
  · exact ⟨w.1, w.2, rfl, h3⟩
  · exact h3.elim
theorem ty_in2_ok (h : ty_er ρ e) {t : ty_t} {l u : Int} {y : Int32} (ht : ty_is e.1 ρ t y.toInt) (hc : ty_in2 e t l u = true) : l ≤ y.toInt ∧ y.toInt ≤ u := by
  obtain ⟨h1, h2⟩ := ex_and hc
  have r := ty_rg y
  constructor
  · rcases Bool.or_eq_true _ _ |>.mp h1 with h1 | h1
    · have h3 : l ≤ -2147483648 := ty_le_t h1
      omega
    · have h1 := ty_ent_ok h h1
      rw [ty_sub_ev, ty_k_ev, ht.2] at h1
      omega
  · rcases Bool.or_eq_true _ _ |>.mp h2 with h2 | h2
    · have h3 : (2147483647 : Int) ≤ u := ty_le_t h2
      omega
    · have h2 := ty_ent_ok h h2
      rw [ty_pl_ev, ht.2] at h2
      omega
theorem ty_01 {y : Int32} (h1 : 0 ≤ y.toInt) (h2 : y.toInt ≤ 1) : y = 0 ∨ y = 1 := by
  rcases (show y.toInt = 0 ∨ y.toInt = 1 by omega) with h | h
  · exact Or.inl (Int32.toInt_inj.mp h)
  · exact Or.inr (Int32.toInt_inj.mp h)
/-- an index -/
theorem ty_ix {y : Int32} {N : Nat} (h1 : 0 ≤ y.toInt) (h2 : y.toInt ≤ (N : Int) - 1) : vp_in y N ∧ y.toNatClampNeg < N ∧ (y.toNatClampNeg : Int) = y.toInt ∧ ¬ y < 0 := by
  have e : (y.toNatClampNeg : Int) = y.toInt := by
    show ((y.toInt.toNat : Nat) : Int) = y.toInt
    omega
  have hn : ¬ y < 0 := by
    rw [Int32.lt_iff_toInt_lt]
    show ¬ y.toInt < 0
    omega
  exact ⟨fun hh => hh.elim hn (fun q => by omega), by omega, e, hn⟩
end TYH
abbrev ty_ft4 (ty : Nat) (ft : FieldType) : Prop := (ty = 0 ∧ ft = .int) ∨ (ty = 1 ∧ ((∃ C, ft = .object C) ∨ ∃ t, ft = .array t)) ∨ (ty = 2 ∧ ft = .boolean) ∨ (ty = 3 ∧ ft = .long)
theorem ty_tk_ok {ty : Nat} {dd : String} (hk : ty_tk ty dd = true) : ∃ ft, parseFieldDescriptor dd = some ft ∧ ty_ft4 ty ft := by
  unfold ty_tk at hk
  split at hk
  · rename_i hp
    exact ⟨_, hp, Or.inr (Or.inr (Or.inr ⟨ex_beq hk, rfl⟩))⟩
  · obtain ⟨ft, h1, h2⟩ := ex_tk_ok hk
    refine ⟨ft, h1, ?_⟩
    rcases h2 with h | h | h
    · exact Or.inl h
    · exact Or.inr (Or.inl h)
    · exact Or.inr (Or.inr (Or.inl h))
theorem ty_okv_ok {b : Nat} {sa : Nat → Nat} {ρ : Nat → Int} {ws : va_W} {e : ty_E} (h : ty_er ρ e) {ty : Nat} {f : ty_F} {v : ty_V} {x : Value} {ft : FieldType} (hk : ty_okv e ty f v = true) (hv : ty_vr b sa e.1 ρ ws v x) (hty : ty_ft4 ty ft) : narrow ft x = x ∧ fits ft x = true ∧ ty_fo ws f x := by
  unfold ty_okv at hk
  split at hk
  · rename_i l u t
    obtain ⟨y, rfl, hy⟩ := hv
    obtain ⟨h1, h2⟩ := ex_and hk
    have hb := ty_in2_ok h hy h1
    have hf : ty_fo ws (.inl (l, u)) (.int y) := ⟨y, rfl, hb⟩
    rcases Bool.or_eq_true _ _ |>.mp h2 with h3 | h3
    · have h3 := ex_beq h3
      rcases hty with ⟨-, rfl⟩ | ⟨z, -⟩ | ⟨z, -⟩ | ⟨z, -⟩
      · exact ⟨rfl, rfl, hf⟩
      all_goals omega
    · obtain ⟨h3, h5⟩ := ex_and h3
      obtain ⟨h3, h4⟩ := ex_and h3
      have h3 := ex_beq h3
      have h4 := ty_nn_t h4
      have h5 := ty_le_t h5
      rcases hty with ⟨z, -⟩ | ⟨z, -⟩ | ⟨-, rfl⟩ | ⟨z, -⟩
      · omega
      · omega
      · rcases ty_01 (y := y) (by omega) (by omega) with rfl | rfl <;> exact ⟨rfl, by decide, hf⟩
      · omega
  · obtain ⟨y, rfl, hy⟩ := hv
    have h3 := ex_beq hk
    rcases hty with ⟨z, -⟩ | ⟨z, -⟩ | ⟨z, -⟩ | ⟨-, rfl⟩
    · omega
    · omega
    · omega
    · exact ⟨rfl, rfl, y, rfl⟩
  · rename_i k k' t
    obtain ⟨j, a, ev, h1, h2, h3, rfl⟩ := hv
    obtain ⟨h4, h5⟩ := ex_and hk
    have h4 := ex_beq h4
    have h5 := ex_beq h5
    dsimp only at h2
    subst h4
    rcases hty with ⟨z, -⟩ | ⟨-, hf⟩ | ⟨z, -⟩ | ⟨z, -⟩
    · omega
    · rcases hf with ⟨C, rfl⟩ | ⟨t, rfl⟩ <;> exact ⟨rfl, rfl, j, a, ev, h2, h3, rfl⟩
    · omega
    · omega
  · cases hk
