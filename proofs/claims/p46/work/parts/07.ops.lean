section EXO
variable {ρ : Nat → Int32} {b : Nat} {tys tys' : List (ClassId × FieldType)} {ws ws' : va_W}
def ex_bv (o : Instr) (x y : Int32) : Option Int32 := match o with
  | .iadd => some (x + y)
  | .isub => some (x - y)
  | .imul => some (x * y)
  | .iand => some (x &&& y)
  | .ior => some (x ||| y)
  | .ixor => some (x ^^^ y)
  | .ishl => some (x <<< (y &&& 31))
  | .ishr => some (x >>> (y &&& 31))
  | .idiv => some (x / y)
  | .irem => some (x - x / y * y)
  | _ => none
theorem ex_and_le (y : Int32) (x : Int32) (h : 2147483648 ≤ ex_u y) : 2147483648 ≤ ex_u (x &&& y) ∧ ex_u (x &&& y) ≤ ex_u y := by
  have l := ex_u_lt y
  have e1 : ex_t (ex_u y) = ex_u y - 2147483648 := by unfold ex_t; omega
  have h1 : Nat.land (ex_t (ex_u x)) (ex_t (ex_u y)) ≤ ex_t (ex_u y) := Nat.and_le_right
  rw [ex_u_and]
  rw [e1] at h1 ⊢
  generalize Nat.land (ex_t (ex_u x)) (ex_u y - 2147483648) = z at h1
  unfold ex_t
  omega
theorem ex_op_ok {o : Instr} {en : ex_E} (he : ex_er ρ en) {v w : ex_V} {x y : Int32} (h : ex_vr ρ b ws v (.int x)) (k : ex_vr ρ b ws w (.int y)) {r : ex_V} (hr : ex_op o en v w = some r) (z : Int32) (hz : ex_bv o x y = some z) : ex_vr ρ b ws r (.int z) ∧ ((o = .idiv ∨ o = .irem) → ¬ y = 0) := by
  unfold ex_op at hr
  split at hr
  · rename_i u w' hu hw
    have e1 := ex_cst_ok he hu h
    have e2 := ex_cst_ok he hw k
    split at hr
    · cases hz; cases hr
      exact ⟨ex_k_ok _ (by rw [ex_u_add, e1, e2]), by rintro (q | q) <;> cases q⟩
    · cases hz; cases hr
      exact ⟨ex_k_ok _ (by rw [ex_u_sub, e1, e2]), by rintro (q | q) <;> cases q⟩
    · cases hz; cases hr
      exact ⟨ex_k_ok _ (by rw [ex_u_mul, e1, e2]), by rintro (q | q) <;> cases q⟩
    · cases hz; cases hr
      exact ⟨ex_k_ok _ (by rw [ex_u_and, e1, e2]), by rintro (q | q) <;> cases q⟩
    · cases hz; cases hr
      exact ⟨ex_k_ok _ (by rw [ex_u_or, e1, e2]), by rintro (q | q) <;> cases q⟩
    · cases hz; cases hr
      exact ⟨ex_k_ok _ (by rw [ex_u_xor, e1, e2]), by rintro (q | q) <;> cases q⟩
    · cases hz
      rcases ex_bif (P := fun z => z = some r) hr with ⟨q1, q2⟩ | ⟨q1, q2⟩
      · cases q2
        have hy : y = 0 := ex_u_inj (by rw [e2, ex_u_0]; exact ex_beq q1)
        subst hy
        exact ⟨ex_k_ok _ (by rw [sb_shl0]; exact e1), by rintro (q | q) <;> cases q⟩
      · cases q2
        exact ⟨ex_full_ok _, by rintro (q | q) <;> cases q⟩
    · cases hz
      obtain ⟨q1, q2⟩ := ex_bifs hr
      cases q2
      obtain ⟨q1, q3⟩ := ex_and q1
      have q1 := ex_ble q1
      have q3 := ex_ble q3
      refine ⟨ex_k_ok _ (by rw [ex_u_div (by rw [e1]; exact q1) (by rw [e2]; exact q3), e1, e2]), fun _ q => ?_⟩
      subst q
      rw [ex_u_0] at e2
      omega
    · cases hz
      obtain ⟨q1, q2⟩ := ex_bifs hr
      cases q2
      obtain ⟨q1, q3⟩ := ex_and q1
      have q1 := ex_ble q1
      have q3 := ex_ble q3
      refine ⟨ex_k_ok _ (by rw [ex_u_rem (by rw [e1]; exact q1) (by rw [e2]; exact q3), e1, e2]), fun _ q => ?_⟩
      subst q
      rw [ex_u_0] at e2
      omega
    · cases hz; cases hr
      exact ⟨ex_full_ok _, by rintro (q | q) <;> cases q⟩
    · cases hr
  · rename_i w' hu hw
    have e2 := ex_cst_ok he hw k
    split at hr
    · cases hz
      rcases ex_bif (P := fun z => z = some r) hr with ⟨q1, q2⟩ | ⟨q1, q2⟩
      · cases q2
        obtain ⟨q1, -⟩ := ex_and q1
        have hy : y = 0 := ex_u_inj (by rw [e2, ex_u_0]; exact ex_beq q1)
        subst hy
        exact ⟨by rw [Int32.add_zero]; exact h, by rintro (q | q) <;> cases q⟩
      · cases q2
        exact ⟨ex_full_ok _, by rintro (q | q) <;> cases q⟩
    · cases hz
      rcases ex_bif (P := fun z => z = some r) hr with ⟨q1, q2⟩ | ⟨q1, q2⟩
      · cases q2
        have q1 := ex_ble q1
        have := ex_and_le y x (by rw [e2]; exact q1)
        exact ⟨⟨_, rfl, this.1, by rw [← e2]; exact this.2⟩, by rintro (q | q) <;> cases q⟩
      · cases q2
        exact ⟨ex_full_ok _, by rintro (q | q) <;> cases q⟩
    · cases hr
    · cases hr
    · rename_i n1 n2 n3 n4
      cases hr
      exact ⟨ex_full_ok _, by rintro (q | q) <;> simp_all⟩
  · rename_i u hu hw
    have e1 := ex_cst_ok he hu h
    split at hr
    · cases hz
      rcases ex_bif (P := fun z => z = some r) hr with ⟨q1, q2⟩ | ⟨q1, q2⟩
      · cases q2
        obtain ⟨q1, -⟩ := ex_and q1
        have hy : x = 0 := ex_u_inj (by rw [e1, ex_u_0]; exact ex_beq q1)
        subst hy
        exact ⟨by rw [Int32.zero_add]; exact k, by rintro (q | q) <;> cases q⟩
      · cases q2
        exact ⟨ex_full_ok _, by rintro (q | q) <;> cases q⟩
    · cases hr
    · cases hr
    · cases hr
      exact ⟨ex_full_ok _, by rintro (q | q) <;> simp_all⟩
  · split at hr
    · cases hr
    · cases hr
    · cases hr
      exact ⟨ex_full_ok _, by rintro (q | q) <;> simp_all⟩
theorem ex_lr_lk : ∀ {lv : ex_L} {lw : List (Nat × Value)}, ex_lr ρ b ws lv lw → ∀ {i : Nat} {v : ex_V}, ex_lk lv i = some v → ∃ (k : Nat) (x : Value), lw[k]? = some (i, x) ∧ ex_vr ρ b ws v x
  | [], [], _, _, _, h => by cases h
  | [], _ :: _, h, _, _, _ => h.elim
  | _ :: _, [], h, _, _, _ => h.elim
  | q :: t, x :: xs, h, i, v, hk => by
    rcases ex_bif (P := fun z => z = some v) (show (bif Nat.beq q.1 i then some q.2 else ex_lk t i) = some v from hk) with ⟨h1, h2⟩ | ⟨h1, h2⟩
    · cases h2
      have := ex_beq h1
      subst this
      exact ⟨0, x.2, by rw [h.1.1]; rfl, h.1.2⟩
    · obtain ⟨k, y, e1, e2⟩ := ex_lr_lk h.2 h2
      exact ⟨k + 1, y, by rw [List.getElem?_cons_succ]; exact e1, e2⟩
theorem ex_cat_ok {v : ex_V} {x : Value} (h : ex_vr ρ b ws v x) : x.category = ex_cat v := by
  rcases v with (n | i | q) | (_ | k) | z | _
  · obtain ⟨y, rfl, -⟩ := h; rfl
  · cases h; rfl
  · obtain ⟨y, rfl, -⟩ := h; rfl
  · cases h; rfl
  · obtain ⟨a, e, -, rfl⟩ := h; rfl
  · cases h; rfl
  · cases h; rfl
/-- the kit's own words for a store of one word -/
abbrev ex_flt (i : Nat) (lw : List (Nat × Value)) : List (Nat × Value) := lw.filter (fun q => !(q.1 == i) && !(q.1 + 1 == i && q.2.category == 2))
theorem ex_beq_b (a c : Nat) : (a == c) = Nat.beq a c := by
  cases h : Nat.beq a c
  · have := ex_bne h; simp [this]
  · have := ex_beq h; simp [this]
theorem ex_lr_del : ∀ {lv : ex_L} {lw : List (Nat × Value)}, ex_lr ρ b ws lv lw → ∀ (i : Nat), ex_lr ρ b ws (ex_del lv i) (ex_flt i lw)
  | [], [], _, _ => trivial
  | [], _ :: _, h, _ => h.elim
  | _ :: _, [], h, _ => h.elim
  | q :: t, x :: xs, h, i => by
    have ih := ex_lr_del h.2 i
    show ex_lr ρ b ws (bif (!(Nat.beq q.1 i) && !(Nat.beq (q.1 + 1) i && Nat.beq (ex_cat q.2) 2)) then q :: ex_del t i else ex_del t i) ((x :: xs).filter _)
    have e : (!(x.1 == i) && !(x.1 + 1 == i && x.2.category == 2)) = (!(Nat.beq q.1 i) && !(Nat.beq (q.1 + 1) i && Nat.beq (ex_cat q.2) 2)) := by
      rw [ex_cat_ok h.1.2, ← h.1.1, ex_beq_b, ex_beq_b, ex_beq_b]
    rw [List.filter_cons, e]
    cases (!(Nat.beq q.1 i) && !(Nat.beq (q.1 + 1) i && Nat.beq (ex_cat q.2) 2))
    · exact ih
    · exact ⟨h.1, ih⟩
end EXO
