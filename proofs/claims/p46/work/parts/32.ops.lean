/-! what the int operations do to terms -/
def ty_is (n : Nat) (ρ : Nat → Int) (t : ty_t) (z : Int) : Prop := ty_sc n t ∧ ty_ev ρ t = z
theorem ty_is.mono {n n' : Nat} {ρ ρ' : Nat → Int} {t : ty_t} {z : Int} (h : ty_is n ρ t z) (ha : ty_ag n ρ ρ') (hn : n ≤ n') : ty_is n' ρ' t z := ⟨h.1.mono hn, by rw [ty_ev_ag ha h.1]; exact h.2⟩
theorem ty_is_k (n : Nat) (ρ : Nat → Int) (c : Int) : ty_is n ρ (ty_k c) c := ⟨ty_k_sc, ty_k_ev ρ c⟩
theorem ty_is_add {n : Nat} {ρ : Nat → Int} {a b : ty_t} {x y : Int} (ha : ty_is n ρ a x) (hb : ty_is n ρ b y) (k : Int) : ty_is n ρ (ty_add a b k) (x + k * y) := ⟨ty_add_sc ha.1 hb.1, by rw [ty_add_ev, ha.2, hb.2]⟩
theorem ty_is_pl {n : Nat} {ρ : Nat → Int} {a : ty_t} {x : Int} (ha : ty_is n ρ a x) (c : Int) : ty_is n ρ (ty_pl a c) (x + c) := ⟨ty_pl_sc ha.1, by rw [ty_pl_ev, ha.2]⟩
theorem ty_bm (z : Int) : z.bmod (2 ^ 32) = ty_wr z := by
  unfold ty_wr Int.bmod
  simp only [show ((2 ^ 32 : Nat) : Int) = 4294967296 from rfl]
  split <;> omega
theorem ty_wr_id {z : Int} (h1 : -2147483648 ≤ z) (h2 : z ≤ 2147483647) : ty_wr z = z := by
  unfold ty_wr; omega
theorem ty_rg (x : Int32) : -2147483648 ≤ x.toInt ∧ x.toInt ≤ 2147483647 := by
  have h1 := Int32.le_toInt x
  have h2 := Int32.toInt_lt x
  omega
theorem ty_rgL (x : Int64) : -9223372036854775808 ≤ x.toInt ∧ x.toInt ≤ 9223372036854775807 := by
  have h1 := Int64.le_toInt x
  have h2 := Int64.toInt_lt x
  omega
/-- a new int that holds z -/
theorem ty_res {ρ : Nat → Int} {e : ty_E} (h : ty_er ρ e) {l u z : Int} (h1 : l ≤ z) (h2 : z ≤ u) {cs : List ty_t} (hc : ∀ c ∈ cs, ty_sc (e.1 + 1) c ∧ ty_ev (ty_up ρ e.1 z) c ≤ 0) : ∃ ρ', ty_ag e.1 ρ ρ' ∧ ty_er ρ' (ty_fr e l u cs) ∧ e.1 ≤ (ty_fr e l u cs).1 ∧ ty_is (ty_fr e l u cs).1 ρ' (ty_s e.1) z := by
  obtain ⟨g1, g2⟩ := ty_fr_ok h h1 h2 hc
  exact ⟨_, ty_up_ag ρ e.1 z, g1, by omega, by rw [g2]; exact ⟨ty_s_sc (Nat.lt_succ_self _), by rw [ty_s_ev, ty_up_at]⟩⟩
theorem ty_res0 {ρ : Nat → Int} {e : ty_E} (h : ty_er ρ e) {l u z : Int} (h1 : l ≤ z) (h2 : z ≤ u) : ∃ ρ', ty_ag e.1 ρ ρ' ∧ ty_er ρ' (ty_fr e l u []) ∧ e.1 ≤ (ty_fr e l u []).1 ∧ ty_is (ty_fr e l u []).1 ρ' (ty_s e.1) z := ty_res h h1 h2 (fun c hc => by cases hc)
def ty_rr (ρ : Nat → Int) (e : ty_E) (z : Int) (r : ty_E × ty_t) : Prop := ∃ ρ', ty_ag e.1 ρ ρ' ∧ ty_er ρ' r.1 ∧ e.1 ≤ r.1.1 ∧ ty_is r.1.1 ρ' r.2 z
theorem ty_rr_id {ρ : Nat → Int} {e : ty_E} (h : ty_er ρ e) {z : Int} {t : ty_t} (ht : ty_is e.1 ρ t z) : ty_rr ρ e z (e, t) := ⟨ρ, fun _ _ => rfl, h, Nat.le_refl _, ht⟩
theorem ty_full_ok {ρ : Nat → Int} {e : ty_E} (h : ty_er ρ e) (z : Int32) : ty_rr ρ e z.toInt (ty_full e) := ty_res0 h (ty_rg z).1 (ty_rg z).2
theorem ty_ok_ok {ρ : Nat → Int} {e : ty_E} (h : ty_er ρ e) {t : ty_t} {z : Int32} {w : Int} (ht : ty_is e.1 ρ t w) (hz : z.toInt = ty_wr w) : ty_rr ρ e z.toInt (ty_ok e t) := by
  unfold ty_ok
  cases hc : (ty_le ty_MIN (ty_lo e t) && ty_le (ty_hi e t) ty_MAX) with
  | false => exact ty_full_ok h z
  | true =>
    obtain ⟨h1, h2⟩ := ex_and hc
    have h1 := ty_le_t h1
    have h2 := ty_le_t h2
    have l1 := ty_lo_ok h.1 t
    have l2 := ty_hi_ok h.1 t
    rw [ht.2] at l1 l2
    have e1 : ty_wr w = w := ty_wr_id (by have : ty_MIN = -2147483648 := rfl; omega) (by have : ty_MAX = 2147483647 := rfl; omega)
    rw [hz, e1]
    exact ty_rr_id h ht
theorem ty_cst_ok {ρ : Nat → Int} {e : ty_E} (h : ty_er ρ e) {t : ty_t} {c : Int} (hc : ty_cst e t = some c) : ty_ev ρ t = c := by
  unfold ty_cst at hc
  rw [ty_fc_eq] at hc
  obtain ⟨h1, h2⟩ := ex_bifs hc
  injection h2 with h2
  have h1 := ty_le_t h1
  have l1 := ty_lo_ok h.1 t
  have l2 := ty_hi_ok h.1 t
  omega
def ty_bv (o : Instr) (x y : Int32) : Option Int32 := match o with
  | .iadd => some (x + y)
  | .isub => some (x - y)
  | .imul => some (x * y)
  | .iand => some (x &&& y)
  | .ior => some (x ||| y)
  | .ixor => some (x ^^^ y)
  | .ishl => some (x <<< (y &&& 31))
  | .ishr => some (x >>> (y &&& 31))
  | .iushr => some (x.toUInt32 >>> (y.toUInt32 &&& Int32.toUInt32 31)).toInt32
  | .idiv => some (x / y)
  | .irem => some (x - x / y * y)
  | _ => none
/-- what an operation's answer says -/
def ty_an (ρ : Nat → Int) (e : ty_E) (o : Instr) (y z : Int32) (r : ty_R) : Prop := match r with
  | .inl _ => True
  | .inr (.inl d) => ty_sc e.1 d
  | .inr (.inr w) => ((o = .idiv ∨ o = .irem) → ¬ y = 0) ∧ ty_rr ρ e z.toInt w
theorem ty_N (x : Int32) : (x.toBitVec.toNat : Int) = if 0 ≤ x.toInt then x.toInt else x.toInt + 4294967296 := by
  have h := x.toBitVec.isLt
  have e : x.toInt = x.toBitVec.toInt := rfl
  rw [e, BitVec.toInt_eq_toNat_cond]
  split <;> split <;> omega
theorem ty_and_b (x y : Int32) : (0 ≤ x.toInt → 0 ≤ (x &&& y).toInt ∧ (x &&& y).toInt ≤ x.toInt) ∧ (0 ≤ y.toInt → 0 ≤ (x &&& y).toInt ∧ (x &&& y).toInt ≤ y.toInt) ∧ (x.toInt < 0 → y.toInt < 0 → (x &&& y).toInt < 0 ∧ (x &&& y).toInt ≤ x.toInt ∧ (x &&& y).toInt ≤ y.toInt) := by
  have n1 := ty_N x
  have n2 := ty_N y
  have n3 := ty_N (x &&& y)
  have r1 := ty_rg x
  have r2 := ty_rg y
  have r3 := ty_rg (x &&& y)
  have e : (x &&& y).toBitVec.toNat = x.toBitVec.toNat &&& y.toBitVec.toNat := by rw [Int32.toBitVec_and, BitVec.toNat_and]
  have l1 : x.toBitVec.toNat &&& y.toBitVec.toNat ≤ x.toBitVec.toNat := Nat.and_le_left
  have l2 : x.toBitVec.toNat &&& y.toBitVec.toNat ≤ y.toBitVec.toNat := Nat.and_le_right
  rw [← e] at l1 l2
  refine ⟨fun h => ?_, fun h => ?_, fun h1 h2 => ?_⟩
  · rw [if_pos h] at n1
    split at n3 <;> omega
  · rw [if_pos h] at n2
    split at n3 <;> omega
  · have m1 : x.toBitVec.msb = true := by rw [BitVec.msb_eq_toInt]; exact decide_eq_true h1
    have m2 : y.toBitVec.msb = true := by rw [BitVec.msb_eq_toInt]; exact decide_eq_true h2
    have m3 : (x &&& y).toBitVec.msb = true := by rw [Int32.toBitVec_and, BitVec.msb_and, m1, m2]; rfl
    rw [BitVec.msb_eq_toInt] at m3
    have m3 : (x &&& y).toInt < 0 := of_decide_eq_true m3
    rw [if_neg (by omega)] at n1 n2 n3
    omega
theorem ty_up_s (ρ : Nat → Int) (n : Nat) (v : Int) : ty_ev (ty_up ρ n v) (ty_s n) = v := by rw [ty_s_ev, ty_up_at]
theorem ty_up_t {ρ : Nat → Int} {n : Nat} {v : Int} {t : ty_t} {z : Int} (h : ty_is n ρ t z) : ty_ev (ty_up ρ n v) t = z := by rw [ty_ev_ag (ty_up_ag ρ n v) h.1]; exact h.2
theorem ty_cs_ok {ρ : Nat → Int} {e : ty_E} {a : ty_t} {x z : Int} (ha : ty_is e.1 ρ a x) (h : z ≤ x) : ∀ c ∈ ty_cs e a, ty_sc (e.1 + 1) c ∧ ty_ev (ty_up ρ e.1 z) c ≤ 0 := by
  intro c hc
  unfold ty_cs at hc
  split at hc
  · cases hc
  · rw [List.mem_singleton] at hc
    subst hc
    exact ⟨ty_add_sc (ty_s_sc (Nat.lt_succ_self _)) (ha.1.mono (Nat.le_succ _)), by rw [ty_sub_ev, ty_up_s, ty_up_t ha]; omega⟩
theorem ty_cs2_ok {ρ : Nat → Int} {e : ty_E} {a b : ty_t} {x y z : Int} (ha : ty_is e.1 ρ a x) (hb : ty_is e.1 ρ b y) (h1 : z ≤ x) (h2 : z ≤ y) : ∀ c ∈ ex_app (ty_cs e a) (ty_cs e b), ty_sc (e.1 + 1) c ∧ ty_ev (ty_up ρ e.1 z) c ≤ 0 := by
  intro c hc
  rw [ex_app_eq] at hc
  rcases List.mem_append.mp hc with hc | hc
  · exact ty_cs_ok ha h1 c hc
  · exact ty_cs_ok hb h2 c hc
theorem ty_mn_le (a b : Int) : ty_mn a b ≤ a ∧ ty_mn a b ≤ b ∧ (ty_mn a b = a ∨ ty_mn a b = b) := by
  unfold ty_mn
  cases h : ty_le a b with
  | true => have := ty_le_t h; exact ⟨Int.le_refl _, this, Or.inl rfl⟩
  | false => have := ty_le_f h; exact ⟨by show b ≤ a; omega, Int.le_refl _, Or.inr rfl⟩
theorem ty_mx_ge (a b : Int) : a ≤ ty_mx a b ∧ b ≤ ty_mx a b := by
  unfold ty_mx
  cases h : ty_le a b with
  | true => have := ty_le_t h; exact ⟨this, Int.le_refl _⟩
  | false => have := ty_le_f h; exact ⟨Int.le_refl _, by show b ≤ a; omega⟩
section TYO
variable {ρ : Nat → Int} {e : ty_E} {a b : ty_t} {x y : Int32} {r : ty_R}
theorem ty_no {o : Instr} (h : o ≠ .idiv) (h' : o ≠ .irem) {y : Int32} : (o = .idiv ∨ o = .irem) → ¬ y = 0 := fun q => by
  rcases q with q | q
  · exact absurd q h
  · exact absurd q h'
theorem ty_a_add_ok (h : ty_er ρ e) (ha : ty_is e.1 ρ a x.toInt) (hb : ty_is e.1 ρ b y.toInt) (hr : ty_a_add e a b = some r) : ty_an ρ e .iadd y (x + y) r := by
  injection hr with hr
  subst hr
  exact ⟨ty_no (by decide) (by decide), ty_ok_ok h (ty_is_add ha hb 1) (by rw [Int32.toInt_add, ty_bm, Int.one_mul])⟩
theorem ty_a_sub_ok (h : ty_er ρ e) (ha : ty_is e.1 ρ a x.toInt) (hb : ty_is e.1 ρ b y.toInt) (hr : ty_a_sub e a b = some r) : ty_an ρ e .isub y (x - y) r := by
  have gen : ty_rr ρ e (x - y).toInt (ty_ok e (ty_add a b (-1))) := ty_ok_ok h (ty_is_add ha hb (-1)) (by rw [Int32.toInt_sub, ty_bm]; congr 1; omega)
  unfold ty_a_sub at hr
  split at hr
  · rename_i u w hu hw
    injection hr with hr
    subst hr
    have e1 := ty_cst_ok h hu
    have e2 := ty_cst_ok h hw
    rw [ha.2] at e1
    rw [hb.2] at e2
    refine ⟨ty_no (by decide) (by decide), ty_rr_id h ?_⟩
    rw [Int32.toInt_sub, ty_bm, e1, e2]
    exact ty_is_k _ _ _
  · rename_i w hu hw
    rcases ex_bif (P := fun z => z = some r) hr with ⟨g1, g2⟩ | ⟨g1, g2⟩
    · injection g2 with g2
      subst g2
      exact ty_pl_sc ha.1
    · injection g2 with g2
      subst g2
      exact ⟨ty_no (by decide) (by decide), gen⟩
  · injection hr with hr
    subst hr
    exact ⟨ty_no (by decide) (by decide), gen⟩
theorem ty_a_mul_ok (h : ty_er ρ e) (ha : ty_is e.1 ρ a x.toInt) (hb : ty_is e.1 ρ b y.toInt) (hr : ty_a_mul e a b = some r) : ty_an ρ e .imul y (x * y) r := by
  unfold ty_a_mul at hr
  split at hr
  · rename_i u hu
    injection hr with hr
    subst hr
    have e1 := ty_cst_ok h hu
    rw [ha.2] at e1
    exact ⟨ty_no (by decide) (by decide), ty_ok_ok h (ty_is_add (ty_is_k _ _ 0) hb u) (by rw [Int32.toInt_mul, ty_bm, e1, Int.zero_add])⟩
  · split at hr
    · rename_i w hw
      injection hr with hr
      subst hr
      have e1 := ty_cst_ok h hw
      rw [hb.2] at e1
      exact ⟨ty_no (by decide) (by decide), ty_ok_ok h (ty_is_add (ty_is_k _ _ 0) ha w) (by rw [Int32.toInt_mul, ty_bm, e1, Int.zero_add, Int.mul_comm])⟩
    · split at hr
      · injection hr with hr
        subst hr
        exact trivial
      · split at hr
        · injection hr with hr
          subst hr
          exact trivial
        · injection hr with hr
          subst hr
          exact ⟨ty_no (by decide) (by decide), ty_full_ok h _⟩
theorem ty_un {x : Int32} (h : 0 ≤ x.toInt) : ((ex_u x - 2147483648 : Nat) : Int) = x.toInt := by
  have u1 := ex_u_int x
  omega
theorem ty_div_b {x y : Int32} (hx : 0 ≤ x.toInt) (hy : 1 ≤ y.toInt) : (x / y).toInt = x.toInt / y.toInt ∧ (x - x / y * y).toInt = x.toInt % y.toInt := by
  have u1 := ex_u_int x
  have u2 := ex_u_int y
  have e1 := ty_un hx
  have e2 := ty_un (x := y) (by omega)
  have d := ex_u_div (x := x) (y := y) (by omega) (by omega)
  have m := ex_u_rem (x := x) (y := y) (by omega) (by omega)
  have u3 := ex_u_int (x / y)
  have u4 := ex_u_int (x - x / y * y)
  have q1 : (((ex_u x - 2147483648) / (ex_u y - 2147483648) : Nat) : Int) = x.toInt / y.toInt := by rw [Int.natCast_ediv, e1, e2]
  have q2 : (((ex_u x - 2147483648) % (ex_u y - 2147483648) : Nat) : Int) = x.toInt % y.toInt := by rw [Int.natCast_emod, e1, e2]
  constructor <;> omega
theorem ty_y0 {y : Int32} (h : 1 ≤ y.toInt ∨ y.toInt ≤ -1) : ¬ y = 0 := fun q => by
  subst q
  have : (0 : Int32).toInt = 0 := rfl
  omega
theorem ty_a_div_ok (h : ty_er ρ e) (ha : ty_is e.1 ρ a x.toInt) (hb : ty_is e.1 ρ b y.toInt) (hr : ty_a_div e a b = some r) : ty_an ρ e .idiv y (x / y) r := by
  unfold ty_a_div at hr
  split at hr
  · rename_i c hc
    have ec := ty_cst_ok h hc
    rw [hb.2] at ec
    rcases ex_bif (P := fun z => z = some r) hr with ⟨g1, g2⟩ | ⟨g1, g2⟩
    · have g1 := ty_le_t g1
      have hy : ¬ y = 0 := ty_y0 (Or.inl (by omega))
      rcases ex_bif (P := fun z => z = some r) g2 with ⟨g3, g4⟩ | ⟨g3, g4⟩
      · have g3 := ty_nn_t g3
        injection g4 with g4
        subst g4
        have l1 := ty_lo_ok h.1 a
        have l2 := ty_hi_ok h.1 a
        rw [ha.2] at l1 l2
        have d := (ty_div_b (x := x) (y := y) (by omega) (by omega)).1
        rw [ec] at d
        have m1 : c * (x.toInt / c) ≤ x.toInt := Int.mul_ediv_self_le (by omega)
        have m2 : x.toInt < c * (x.toInt / c) + c := Int.lt_mul_ediv_self_add (by omega)
        refine ⟨fun _ => hy, ?_⟩
        rw [d]
        refine ty_res h (Int.ediv_le_ediv (by omega) l1) (Int.ediv_le_ediv (by omega) l2) (fun t ht => ?_)
        have sS : ty_sc (e.1 + 1) (ty_s e.1) := ty_s_sc (Nat.lt_succ_self _)
        have sA : ty_sc (e.1 + 1) a := ha.1.mono (Nat.le_succ _)
        rcases List.mem_cons.mp ht with rfl | ht
        · refine ⟨ty_add_sc (ty_add_sc ty_k_sc sS) sA, ?_⟩
          rw [ty_sub_ev, ty_add_ev, ty_k_ev, ty_up_s, ty_up_t ha]
          omega
        · rw [List.mem_singleton] at ht
          subst ht
          refine ⟨ty_pl_sc (ty_add_sc sA sS), ?_⟩
          rw [ty_pl_ev, ty_add_ev, ty_up_s, ty_up_t ha, Int.neg_mul]
          omega
      · injection g4 with g4
        subst g4
        exact ⟨fun _ => hy, ty_full_ok h _⟩
    · obtain ⟨g3, g4⟩ := ex_bifs g2
      injection g4 with g4
      subst g4
      have g3 := ty_le_t g3
      exact ⟨fun _ => ty_y0 (Or.inr (by omega)), ty_full_ok h _⟩
  · split at hr
    · injection hr with hr
      subst hr
      exact trivial
    · obtain ⟨g3, g4⟩ := ex_bifs hr
      injection g4 with g4
      subst g4
      have l1 := ty_lo_ok h.1 b
      have l2 := ty_hi_ok h.1 b
      rw [hb.2] at l1 l2
      refine ⟨fun _ => ?_, ty_full_ok h _⟩
      rcases Bool.or_eq_true _ _ |>.mp g3 with g | g
      · have g := ty_le_t g
        exact ty_y0 (Or.inl (by omega))
      · have g := ty_le_t g
        exact ty_y0 (Or.inr (by omega))
theorem ty_a_rem_ok (h : ty_er ρ e) (ha : ty_is e.1 ρ a x.toInt) (hb : ty_is e.1 ρ b y.toInt) (hr : ty_a_rem e a b = some r) : ty_an ρ e .irem y (x - x / y * y) r := by
  have l1 := ty_lo_ok h.1 a
  have l2 := ty_hi_ok h.1 a
  rw [ha.2] at l1 l2
  have k1 := ty_lo_ok h.1 b
  have k2 := ty_hi_ok h.1 b
  rw [hb.2] at k1 k2
  unfold ty_a_rem at hr
  split at hr
  · rename_i c hc
    have ec := ty_cst_ok h hc
    rw [hb.2] at ec
    rcases ex_bif (P := fun z => z = some r) hr with ⟨g1, g2⟩ | ⟨g1, g2⟩
    · have g1 := ty_le_t g1
      have hy : ¬ y = 0 := ty_y0 (Or.inl (by omega))
      rcases ex_bif (P := fun z => z = some r) g2 with ⟨g3, g4⟩ | ⟨g3, g4⟩
      · have g3 := ty_nn_t g3
        injection g4 with g4
        subst g4
        have d := (ty_div_b (x := x) (y := y) (by omega) (by omega)).2
        rw [ec] at d
        have m1 : 0 ≤ x.toInt % c := Int.emod_nonneg _ (by omega)
        have m2 : x.toInt % c < c := Int.emod_lt_of_pos _ (by omega)
        have m3 : x.toInt % c ≤ x.toInt := by
          have q1 : 0 ≤ c * (x.toInt / c) := Int.mul_nonneg (by omega) (Int.ediv_nonneg (by omega) (by omega))
          have q2 := Int.emod_add_mul_ediv x.toInt c
          omega
        obtain ⟨z1, z2, z3⟩ := ty_mn_le (c - 1) (ty_hi e a)
        refine ⟨fun _ => hy, ?_⟩
        rw [d]
        exact ty_res0 h m1 (by rcases z3 with z | z <;> omega)
      · injection g4 with g4
        subst g4
        exact ⟨fun _ => hy, ty_full_ok h _⟩
    · obtain ⟨g3, g4⟩ := ex_bifs g2
      injection g4 with g4
      subst g4
      have g3 := ty_le_t g3
      exact ⟨fun _ => ty_y0 (Or.inr (by omega)), ty_full_ok h _⟩
  · split at hr
    · injection hr with hr
      subst hr
      exact trivial
    · rcases ex_bif (P := fun z => z = some r) hr with ⟨g1, g2⟩ | ⟨g1, g2⟩
      · have g1 := ty_le_t g1
        have hy : ¬ y = 0 := ty_y0 (Or.inl (by omega))
        rcases ex_bif (P := fun z => z = some r) g2 with ⟨g3, g4⟩ | ⟨g3, g4⟩
        · have g3 := ty_nn_t g3
          injection g4 with g4
          subst g4
          have d := (ty_div_b (x := x) (y := y) (by omega) (by omega)).2
          have m1 : 0 ≤ x.toInt % y.toInt := Int.emod_nonneg _ (by omega)
          have m2 : x.toInt % y.toInt < y.toInt := Int.emod_lt_of_pos _ (by omega)
          refine ⟨fun _ => hy, ?_⟩
          rw [d]
          refine ty_res h m1 (by omega) (fun t ht => ?_)
          rw [List.mem_singleton] at ht
          subst ht
          refine ⟨ty_pl_sc (ty_add_sc (ty_s_sc (Nat.lt_succ_self _)) (hb.1.mono (Nat.le_succ _))), ?_⟩
          rw [ty_pl_ev, ty_sub_ev, ty_up_s, ty_up_t hb]
          omega
        · injection g4 with g4
          subst g4
          exact ⟨fun _ => hy, ty_full_ok h _⟩
      · obtain ⟨g3, g4⟩ := ex_bifs g2
        injection g4 with g4
        subst g4
        have g3 := ty_le_t g3
        exact ⟨fun _ => ty_y0 (Or.inr (by omega)), ty_full_ok h _⟩
theorem ty_a_and1_ok (h : ty_er ρ e) (ha : ty_is e.1 ρ a x.toInt) (hb : ty_is e.1 ρ b y.toInt) (hr : ty_a_and1 e a b = some r) : ty_an ρ e .iand y (x &&& y) r := by
  have l1 := ty_lo_ok h.1 a
  have l2 := ty_hi_ok h.1 a
  rw [ha.2] at l1 l2
  have k1 := ty_lo_ok h.1 b
  have k2 := ty_hi_ok h.1 b
  rw [hb.2] at k1 k2
  obtain ⟨b1, b2, b3⟩ := ty_and_b x y
  obtain ⟨z1, z2, z3⟩ := ty_mn_le (ty_hi e a) (ty_hi e b)
  have nd : ((Instr.iand = .idiv ∨ Instr.iand = .irem) → ¬ y = 0) := ty_no (by decide) (by decide)
  unfold ty_a_and1 at hr
  rcases ex_bif (P := fun z => z = some r) hr with ⟨g1, g2⟩ | ⟨g1, g2⟩
  · have g1 := ty_nn_t g1
    have b1 := b1 (by omega)
    rcases ex_bif (P := fun z => z = some r) g2 with ⟨g3, g4⟩ | ⟨g3, g4⟩
    · have g3 := ty_nn_t g3
      have b2 := b2 (by omega)
      injection g4 with g4
      subst g4
      exact ⟨nd, ty_res h b1.1 (by rcases z3 with z | z <;> omega) (ty_cs2_ok ha hb b1.2 b2.2)⟩
    · injection g4 with g4
      subst g4
      exact ⟨nd, ty_res0 h b1.1 (by omega)⟩
  · rcases ex_bif (P := fun z => z = some r) g2 with ⟨g3, g4⟩ | ⟨g3, g4⟩
    · have g3 := ty_nn_t g3
      have b2 := b2 (by omega)
      injection g4 with g4
      subst g4
      exact ⟨nd, ty_res0 h b2.1 (by omega)⟩
    · rcases ex_bif (P := fun z => z = some r) g4 with ⟨g5, g6⟩ | ⟨g5, g6⟩
      · obtain ⟨g5, g7⟩ := ex_and g5
        have g5 := ty_le_t g5
        have g7 := ty_le_t g7
        have b3 := b3 (by omega) (by omega)
        injection g6 with g6
        subst g6
        exact ⟨nd, ty_res h (ty_rg _).1 (by rcases z3 with z | z <;> omega) (ty_cs2_ok ha hb b3.2.1 b3.2.2)⟩
      · injection g6 with g6
        subst g6
        exact ⟨nd, ty_full_ok h _⟩
theorem ty_ones_ok {y : Int} (h : ty_ones y = true) : ∃ k : Nat, 1 ≤ k ∧ k ≤ 8 ∧ y = 2 ^ k - 1 := by
  obtain ⟨k, h1, h2⟩ := ty_any_t h
  have h2 := ty_0_t h2
  refine ⟨k, ?_, ?_, by omega⟩ <;> (simp only [List.mem_cons, List.not_mem_nil, or_false] at h1; omega)
theorem ty_mask {x y : Int32} {k : Nat} (h1 : 1 ≤ k) (h2 : k ≤ 8) (hy : y.toInt = 2 ^ k - 1) (l1 : -(2 ^ k : Int) ≤ x.toInt) (l2 : x.toInt ≤ 2 ^ k - 1) : (x &&& y).toInt = if 0 ≤ x.toInt then x.toInt else x.toInt + 2 ^ k := by
  have n1 := ty_N x
  have n2 := ty_N y
  have n3 := ty_N (x &&& y)
  have r3 := ty_rg (x &&& y)
  have e : (x &&& y).toBitVec.toNat = x.toBitVec.toNat &&& y.toBitVec.toNat := by rw [Int32.toBitVec_and, BitVec.toNat_and]
  have ey : y.toBitVec.toNat = 2 ^ k - 1 := by
    have p0 : 1 ≤ 2 ^ k := Nat.one_le_two_pow
    have p : (1 : Int) ≤ 2 ^ k := by exact_mod_cast p0
    rw [hy, if_pos (by omega)] at n2
    have q : ((2 ^ k - 1 : Nat) : Int) = 2 ^ k - 1 := by
      have : 1 ≤ 2 ^ k := Nat.one_le_two_pow
      push_cast [this]
      rfl
    omega
  rw [ey, Nat.and_two_pow_sub_one_eq_mod] at e
  rcases (show k = 1 ∨ k = 2 ∨ k = 3 ∨ k = 4 ∨ k = 5 ∨ k = 6 ∨ k = 7 ∨ k = 8 by omega) with rfl | rfl | rfl | rfl | rfl | rfl | rfl | rfl <;> (split at n1 <;> split at n3 <;> split <;> omega)
theorem ty_a_and_ok (h : ty_er ρ e) (ha : ty_is e.1 ρ a x.toInt) (hb : ty_is e.1 ρ b y.toInt) (hr : ty_a_and e a b = some r) : ty_an ρ e .iand y (x &&& y) r := by
  have nd : ((Instr.iand = .idiv ∨ Instr.iand = .irem) → ¬ y = 0) := ty_no (by decide) (by decide)
  unfold ty_a_and at hr
  split at hr
  · rename_i c hc
    have ec := ty_cst_ok h hc
    rw [hb.2] at ec
    rcases ex_bif (P := fun z => z = some r) hr with ⟨g1, g2⟩ | ⟨g1, g2⟩
    · obtain ⟨g1, c3⟩ := ex_and g1
      obtain ⟨c1, c2⟩ := ex_and g1
      obtain ⟨k, k1, k2, k3⟩ := ty_ones_ok c1
      have c2 := ty_le_t c2
      have c3 := ty_le_t c3
      have l1 := ty_lo_ok h.1 a
      have l2 := ty_hi_ok h.1 a
      rw [ha.2] at l1 l2
      have mk := ty_mask (x := x) (y := y) k1 k2 (by omega) (by omega) (by omega)
      rcases ex_bif (P := fun z => z = some r) g2 with ⟨g3, g4⟩ | ⟨g3, g4⟩
      · have g3 := ty_nn_t g3
        injection g4 with g4
        subst g4
        rw [if_pos (by omega)] at mk
        refine ⟨nd, ?_⟩
        rw [mk]
        exact ty_rr_id h ha
      · rcases ex_bif (P := fun z => z = some r) g4 with ⟨g5, g6⟩ | ⟨g5, g6⟩
        · have g5 := ty_le_t g5
          injection g6 with g6
          subst g6
          rw [if_neg (by omega)] at mk
          refine ⟨nd, ?_⟩
          rw [mk]
          have := ty_is_pl ha (c + 1)
          rw [show x.toInt + (c + 1) = x.toInt + 2 ^ k by omega] at this
          exact ty_rr_id h this
        · injection g6 with g6
          subst g6
          exact ha.1
    · exact ty_a_and1_ok h ha hb g2
  · exact ty_a_and1_ok h ha hb hr
theorem ty_pw_ok {n : Nat} {h : Int} (hn : (n : Int) ≤ h) (hh : h ≤ 2147483647) : ∃ k : Nat, k ≤ 31 ∧ n < 2 ^ k ∧ ty_pw h = ((2 ^ k - 1 : Nat) : Int) := by
  obtain ⟨m, rfl⟩ : ∃ m : Nat, h = (m : Int) := ⟨h.toNat, by omega⟩
  show ∃ k : Nat, k ≤ 31 ∧ n < 2 ^ k ∧ (bif Nat.beq m 0 then (0 : Int) else Int.ofNat (2 ^ (Nat.log2 m + 1) - 1)) = ((2 ^ k - 1 : Nat) : Int)
  cases hb : Nat.beq m 0 with
  | true =>
    have := ex_beq hb
    exact ⟨0, by omega, by omega, rfl⟩
  | false =>
    have h0 := ex_bne hb
    have h1 : m < 2 ^ (Nat.log2 m + 1) := Nat.lt_log2_self
    have h2 : Nat.log2 m < 31 := (Nat.log2_lt h0).mpr (by omega)
    exact ⟨Nat.log2 m + 1, by omega, by omega, rfl⟩
theorem ty_or_b {x y z : Int32} (hz : z.toBitVec.toNat = x.toBitVec.toNat ||| y.toBitVec.toNat ∨ z.toBitVec.toNat = x.toBitVec.toNat ^^^ y.toBitVec.toNat) (hx : 0 ≤ x.toInt) (hy : 0 ≤ y.toInt) {u v : Int} (h1 : x.toInt ≤ u) (h2 : y.toInt ≤ v) (h3 : u ≤ 2147483647) (h4 : v ≤ 2147483647) : 0 ≤ z.toInt ∧ z.toInt ≤ ty_mx (ty_pw u) (ty_pw v) := by
  have n1 := ty_N x
  have n2 := ty_N y
  have n3 := ty_N z
  rw [if_pos hx] at n1
  rw [if_pos hy] at n2
  obtain ⟨k, k1, k2, k3⟩ := ty_pw_ok (n := x.toBitVec.toNat) (h := u) (by omega) h3
  obtain ⟨j, j1, j2, j3⟩ := ty_pw_ok (n := y.toBitVec.toNat) (h := v) (by omega) h4
  have p1 : 2 ^ k ≤ 2 ^ max k j := Nat.pow_le_pow_right (by omega) (by omega)
  have p2 : 2 ^ j ≤ 2 ^ max k j := Nat.pow_le_pow_right (by omega) (by omega)
  have p3 : 2 ^ max k j ≤ 2 ^ 31 := Nat.pow_le_pow_right (by omega) (by omega)
  have p4 : z.toBitVec.toNat < 2 ^ max k j := by
    rcases hz with hz | hz <;> rw [hz]
    · exact Nat.or_lt_two_pow (by omega) (by omega)
    · exact Nat.xor_lt_two_pow (by omega) (by omega)
  have m := ty_mx_ge (ty_pw u) (ty_pw v)
  have r := ty_rg z
  have q : (z.toBitVec.toNat : Int) ≤ ty_mx (ty_pw u) (ty_pw v) := by
    rcases Nat.le_total k j with hkj | hkj
    · rw [Nat.max_eq_right hkj] at p4
      have m2 := m.2
      have m3 : ((2 ^ j - 1 : Nat) : Int) ≤ ty_mx (ty_pw u) (ty_pw v) := by rw [← j3]; exact m2
      omega
    · rw [Nat.max_eq_left hkj] at p4
      have m2 := m.1
      have m3 : ((2 ^ k - 1 : Nat) : Int) ≤ ty_mx (ty_pw u) (ty_pw v) := by rw [← k3]; exact m2
      omega
  split at n3 <;> omega
theorem ty_a_or_ok {o : Instr} {z : Int32} (ho : (o = .ior ∧ z = x ||| y) ∨ (o = .ixor ∧ z = x ^^^ y)) (h : ty_er ρ e) (ha : ty_is e.1 ρ a x.toInt) (hb : ty_is e.1 ρ b y.toInt) (hr : ty_a_or e a b = some r) : ty_an ρ e o y z r := by
  have nd : ((o = .idiv ∨ o = .irem) → ¬ y = 0) := by
    rcases ho with ⟨rfl, -⟩ | ⟨rfl, -⟩
    · exact ty_no (by decide) (by decide)
    · exact ty_no (by decide) (by decide)
  unfold ty_a_or at hr
  rcases ex_bif (P := fun z => z = some r) hr with ⟨g1, g2⟩ | ⟨g1, g2⟩
  · obtain ⟨g1, g3⟩ := ex_and g1
    have g1 := ty_nn_t g1
    have g3 := ty_nn_t g3
    have l1 := ty_lo_ok h.1 a
    have l2 := ty_hi_ok h.1 a
    rw [ha.2] at l1 l2
    have k1 := ty_lo_ok h.1 b
    have k2 := ty_hi_ok h.1 b
    rw [hb.2] at k1 k2
    injection g2 with g2
    subst g2
    refine ⟨nd, ?_⟩
    have hz : z.toBitVec.toNat = x.toBitVec.toNat ||| y.toBitVec.toNat ∨ z.toBitVec.toNat = x.toBitVec.toNat ^^^ y.toBitVec.toNat := by
      rcases ho with ⟨-, rfl⟩ | ⟨-, rfl⟩
      · exact Or.inl (by rw [Int32.toBitVec_or, BitVec.toNat_or])
      · exact Or.inr (by rw [Int32.toBitVec_xor, BitVec.toNat_xor])
    by_cases big : ty_hi e a ≤ 2147483647 ∧ ty_hi e b ≤ 2147483647
    · obtain ⟨q1, q2⟩ := ty_or_b hz (by omega) (by omega) l2 k2 big.1 big.2
      exact ty_res0 h q1 q2
    · -- a range above the ints: the answer is below it all the same
      have rx := ty_rg x
      have ry := ty_rg y
      obtain ⟨q1, q2⟩ := ty_or_b hz (by omega) (by omega) rx.2 ry.2 (Int.le_refl _) (Int.le_refl _)
      have m := ty_mx_ge (ty_pw (ty_hi e a)) (ty_pw (ty_hi e b))
      have pwb : ∀ w : Int, 2147483647 < w → (2147483647 : Int) ≤ ty_pw w := by
        intro w hw
        obtain ⟨m', rfl⟩ : ∃ m' : Nat, w = (m' : Int) := ⟨w.toNat, by omega⟩
        show (2147483647 : Int) ≤ (bif Nat.beq m' 0 then (0 : Int) else Int.ofNat (2 ^ (Nat.log2 m' + 1) - 1))
        cases hb : Nat.beq m' 0 with
        | true => have := ex_beq hb; omega
        | false =>
          have h1 : m' < 2 ^ (Nat.log2 m' + 1) := Nat.lt_log2_self
          show (2147483647 : Int) ≤ ((2 ^ (Nat.log2 m' + 1) - 1 : Nat) : Int)
          omega
      have t : ty_mx (ty_pw 2147483647) (ty_pw 2147483647) = 2147483647 := by decide
      rw [t] at q2
      refine ty_res0 h q1 ?_
      by_cases w : 2147483647 < ty_hi e a
      · have := pwb _ w; omega
      · have := pwb (ty_hi e b) (by omega); omega
  · injection g2 with g2
    subst g2
    exact ⟨nd, ty_full_ok h _⟩
theorem ty_one_shl : ∀ j, j < 31 → ((1 : Int32) <<< (nI j &&& 31)).toInt = 2 ^ j := by decide
theorem ty_asI {x : Int32} {j : Nat} (h : x.toInt = (j : Int)) (hj : j < 2 ^ 31) : x = nI j := Int32.toInt_inj.mp (by rw [nI_toInt hj]; exact h)
theorem ty_a_shl_ok (h : ty_er ρ e) (ha : ty_is e.1 ρ a x.toInt) (hb : ty_is e.1 ρ b y.toInt) (hr : ty_a_shl e a b = some r) : ty_an ρ e .ishl y (x <<< (y &&& 31)) r := by
  have nd : ((Instr.ishl = .idiv ∨ Instr.ishl = .irem) → ¬ y = 0) := ty_no (by decide) (by decide)
  unfold ty_a_shl at hr
  split at hr
  · rename_i c hc
    have ec := ty_cst_ok h hc
    rw [ha.2] at ec
    rcases ex_bif (P := fun z => z = some r) hr with ⟨g1, g2⟩ | ⟨g1, g2⟩
    · obtain ⟨g1, c3⟩ := ex_and g1
      obtain ⟨c1, c2⟩ := ex_and g1
      have c1 := ty_0_t c1
      have c2 := ty_nn_t c2
      have c3 := ty_le_t c3
      have k1 := ty_lo_ok h.1 b
      have k2 := ty_hi_ok h.1 b
      rw [hb.2] at k1 k2
      injection g2 with g2
      subst g2
      obtain ⟨j, hj⟩ : ∃ j : Nat, y.toInt = (j : Int) := ⟨y.toInt.toNat, by omega⟩
      have ex : x = 1 := ty_asI (j := 1) (by omega) (by decide)
      have ey : y = nI j := ty_asI hj (by omega)
      refine ⟨nd, ?_⟩
      have v : (x <<< (y &&& 31)).toInt = 2 ^ j := by rw [ex, ey]; exact ty_one_shl j (by omega)
      rw [v]
      have q1 : (2 ^ (ty_lo e b).toNat : Int) ≤ 2 ^ j := by
        have : 2 ^ (ty_lo e b).toNat ≤ 2 ^ j := Nat.pow_le_pow_right (by omega) (by omega)
        exact_mod_cast this
      have q2 : (2 ^ j : Int) ≤ 2 ^ (ty_hi e b).toNat := by
        have : 2 ^ j ≤ 2 ^ (ty_hi e b).toNat := Nat.pow_le_pow_right (by omega) (by omega)
        exact_mod_cast this
      exact ty_res0 h q1 q2
    · injection g2 with g2
      subst g2
      exact ⟨nd, ty_full_ok h _⟩
  · injection hr with hr
    subst hr
    exact ⟨nd, ty_full_ok h _⟩
theorem ty_shk : ∀ j, j < 32 → ((nI j &&& 31).toBitVec.smod 32).toNat = j := by decide
theorem ty_a_shr_ok (h : ty_er ρ e) (ha : ty_is e.1 ρ a x.toInt) (hb : ty_is e.1 ρ b y.toInt) (hr : ty_a_shr e a b = some r) : ty_an ρ e .ishr y (x >>> (y &&& 31)) r := by
  have nd : ((Instr.ishr = .idiv ∨ Instr.ishr = .irem) → ¬ y = 0) := ty_no (by decide) (by decide)
  unfold ty_a_shr at hr
  split at hr
  · rename_i c hc
    have ec := ty_cst_ok h hc
    rw [hb.2] at ec
    rcases ex_bif (P := fun z => z = some r) hr with ⟨g1, g2⟩ | ⟨g1, g2⟩
    · obtain ⟨g1, c3⟩ := ex_and g1
      obtain ⟨c1, c2⟩ := ex_and g1
      have c1 := ty_nn_t c1
      have c2 := ty_le_t c2
      have c3 := ty_nn_t c3
      have l1 := ty_lo_ok h.1 a
      have l2 := ty_hi_ok h.1 a
      rw [ha.2] at l1 l2
      injection g2 with g2
      subst g2
      obtain ⟨j, rfl⟩ : ∃ j : Nat, c = (j : Int) := ⟨c.toNat, by omega⟩
      have ey : y = nI j := ty_asI ec (by omega)
      refine ⟨nd, ?_⟩
      have v : (x >>> (y &&& 31)).toInt = x.toInt / 2 ^ j := by
        rw [ey, pk_shr x (nI j &&& 31) j (ty_shk j (by omega)), Int.shiftRight_eq_div_pow]
        rfl
      rw [v]
      have p : (0 : Int) < 2 ^ j := by
        have : 0 < 2 ^ j := Nat.two_pow_pos j
        exact_mod_cast this
      exact ty_res0 h (Int.ediv_le_ediv p l1) (Int.ediv_le_ediv p l2)
    · injection g2 with g2
      subst g2
      exact ⟨nd, ty_full_ok h _⟩
  · injection hr with hr
    subst hr
    exact ⟨nd, ty_full_ok h _⟩
theorem ty_nat {x : Int32} {n : Nat} (h : x.toInt = (n : Int)) : x.toBitVec.toNat = n ∧ n < 2 ^ 31 := by
  have h1 := ty_N x
  rw [if_pos (by omega)] at h1
  have h2 := ty_rg x
  exact ⟨by omega, by omega⟩
theorem ty_ofn {z : Int32} {n : Nat} (h : z.toBitVec.toNat = n) (hn : n < 2 ^ 31) : z.toInt = (n : Int) := by
  have h1 := ty_N z
  have h2 := ty_rg z
  split at h1 <;> omega
theorem ty_b_and_ok (h : ty_er ρ e) (ha : ty_is e.1 ρ a x.toInt) (hb : ty_is e.1 ρ b y.toInt) (hr : ty_b_and e a b = some r) : ty_an ρ e .iand y (x &&& y) r := by
  unfold ty_b_and at hr
  split at hr
  · rename_i X Y hX hY
    have eX := ty_cst_ok h hX
    have eY := ty_cst_ok h hY
    rw [ha.2] at eX
    rw [hb.2] at eY
    obtain ⟨x1, x2⟩ := ty_nat (x := x) (n := X) eX
    obtain ⟨y1, y2⟩ := ty_nat (x := y) (n := Y) eY
    injection hr with hr
    subst hr
    refine ⟨ty_no (by decide) (by decide), ?_⟩
    have hz : (x &&& y).toBitVec.toNat = Nat.land X Y := by rw [Int32.toBitVec_and, BitVec.toNat_and, x1, y1]; rfl
    have hl : Nat.land X Y ≤ X := Nat.and_le_left
    rw [ty_ofn hz (by omega)]
    exact ty_rr_id h (ty_is_k _ _ _)
  · exact ty_a_and_ok h ha hb hr
theorem ty_b_or_ok (h : ty_er ρ e) (ha : ty_is e.1 ρ a x.toInt) (hb : ty_is e.1 ρ b y.toInt) (hr : ty_b_or e a b = some r) : ty_an ρ e .ior y (x ||| y) r := by
  unfold ty_b_or at hr
  split at hr
  · rename_i X Y hX hY
    have eX := ty_cst_ok h hX
    have eY := ty_cst_ok h hY
    rw [ha.2] at eX
    rw [hb.2] at eY
    obtain ⟨x1, x2⟩ := ty_nat (x := x) (n := X) eX
    obtain ⟨y1, y2⟩ := ty_nat (x := y) (n := Y) eY
    injection hr with hr
    subst hr
    refine ⟨ty_no (by decide) (by decide), ?_⟩
    have hz : (x ||| y).toBitVec.toNat = Nat.lor X Y := by rw [Int32.toBitVec_or, BitVec.toNat_or, x1, y1]; rfl
    have hl : Nat.lor X Y < 2 ^ 31 := Nat.or_lt_two_pow x2 y2
    rw [ty_ofn hz hl]
    exact ty_rr_id h (ty_is_k _ _ _)
  · split at hr
    · injection hr with hr
      subst hr
      exact trivial
    · exact ty_a_or_ok (Or.inl ⟨rfl, rfl⟩) h ha hb hr
  · exact ty_a_or_ok (Or.inl ⟨rfl, rfl⟩) h ha hb hr
theorem ty_b_shr_ok (h : ty_er ρ e) (ha : ty_is e.1 ρ a x.toInt) (hb : ty_is e.1 ρ b y.toInt) (hr : ty_b_shr e a b = some r) : ty_an ρ e .ishr y (x >>> (y &&& 31)) r := by
  unfold ty_b_shr at hr
  split at hr
  · split at hr
    · injection hr with hr
      subst hr
      exact trivial
    · exact ty_a_shr_ok h ha hb hr
  · exact ty_a_shr_ok h ha hb hr
theorem ty_ar_ok {o : Instr} {z : Int32} (h : ty_er ρ e) (ha : ty_is e.1 ρ a x.toInt) (hb : ty_is e.1 ρ b y.toInt) (hz : ty_bv o x y = some z) (hr : ty_ar o e a b = some r) : ty_an ρ e o y z r := by
  cases o <;> first | (cases hz; done) | skip
  all_goals (injection hz with hz; subst hz)
  all_goals first
    | exact ty_a_add_ok h ha hb hr
    | exact ty_a_sub_ok h ha hb hr
    | exact ty_a_mul_ok h ha hb hr
    | exact ty_a_div_ok h ha hb hr
    | exact ty_a_rem_ok h ha hb hr
    | exact ty_b_and_ok h ha hb hr
    | exact ty_b_or_ok h ha hb hr
    | exact ty_a_or_ok (Or.inr ⟨rfl, rfl⟩) h ha hb hr
    | exact ty_a_shl_ok h ha hb hr
    | exact ty_b_shr_ok h ha hb hr
    | (injection (show some (Sum.inr (Sum.inr (ty_full e))) = some r from hr) with hr; subst hr; exact ⟨ty_no (by decide) (by decide), ty_full_ok h _⟩)
end TYO
