def ex_u (x : Int32) : Nat := (x.toBitVec.toNat + 2147483648) % 4294967296
theorem ex_u_lt (x : Int32) : ex_u x < 4294967296 := Nat.mod_lt _ (by decide)
theorem ex_u_int (x : Int32) : (ex_u x : Int) = x.toInt + 2147483648 := by
  have h := x.toBitVec.isLt
  have e : x.toInt = x.toBitVec.toInt := rfl
  rw [e, BitVec.toInt_eq_toNat_cond]
  unfold ex_u
  split <;> omega
theorem ex_u_inj {x y : Int32} (h : ex_u x = ex_u y) : x = y := by
  have h1 := ex_u_int x
  have h2 := ex_u_int y
  exact Int32.toInt_inj.mp (by omega)
theorem ex_u_lti {x y : Int32} : x < y ↔ ex_u x < ex_u y := by
  have h1 := ex_u_int x
  have h2 := ex_u_int y
  rw [Int32.lt_iff_toInt_lt]
  omega
theorem ex_u_lei {x y : Int32} : x ≤ y ↔ ex_u x ≤ ex_u y := by
  have h1 := ex_u_int x
  have h2 := ex_u_int y
  rw [Int32.le_iff_toInt_le]
  omega
theorem ex_u_0 : ex_u 0 = 2147483648 := by decide
theorem ex_u_nneg {x : Int32} (h : 2147483648 ≤ ex_u x) : ¬ x < 0 := by
  rw [ex_u_lti, ex_u_0]; omega
theorem ex_u_cl {x : Int32} (h : 2147483648 ≤ ex_u x) : x.toNatClampNeg = ex_u x - 2147483648 := by
  have h1 := ex_u_int x
  have e : x.toNatClampNeg = x.toInt.toNat := rfl
  rw [e]; omega
theorem ex_u_tn (x : Int32) : x.toBitVec.toNat = ex_t (ex_u x) := by
  have h := x.toBitVec.isLt
  unfold ex_t ex_u
  omega
theorem ex_u_of (x : Int32) : ex_u x = ex_t x.toBitVec.toNat := rfl
theorem ex_u_add (x y : Int32) : ex_u (x + y) = (ex_u x + ex_u y + 2147483648) % 4294967296 := by
  have h1 := x.toBitVec.isLt
  have h2 := y.toBitVec.isLt
  have e : (x + y).toBitVec.toNat = (x.toBitVec.toNat + y.toBitVec.toNat) % 4294967296 := by rw [Int32.toBitVec_add, BitVec.toNat_add]
  unfold ex_u
  rw [e]; omega
theorem ex_u_sub (x y : Int32) : ex_u (x - y) = (ex_u x + 6442450944 - ex_u y) % 4294967296 := by
  have h1 := x.toBitVec.isLt
  have h2 := y.toBitVec.isLt
  have e : (x - y).toBitVec.toNat = (4294967296 - y.toBitVec.toNat + x.toBitVec.toNat) % 4294967296 := by rw [Int32.toBitVec_sub, BitVec.toNat_sub]
  unfold ex_u
  rw [e]; omega
theorem ex_u_mul (x y : Int32) : ex_u (x * y) = ex_t (ex_t (ex_u x) * ex_t (ex_u y) % 4294967296) := by
  rw [ex_u_of, ← ex_u_tn x, ← ex_u_tn y, Int32.toBitVec_mul, BitVec.toNat_mul]
theorem ex_u_and (x y : Int32) : ex_u (x &&& y) = ex_t (Nat.land (ex_t (ex_u x)) (ex_t (ex_u y))) := by
  rw [ex_u_of, ← ex_u_tn x, ← ex_u_tn y, Int32.toBitVec_and, BitVec.toNat_and]; rfl
theorem ex_u_or (x y : Int32) : ex_u (x ||| y) = ex_t (Nat.lor (ex_t (ex_u x)) (ex_t (ex_u y))) := by
  rw [ex_u_of, ← ex_u_tn x, ← ex_u_tn y, Int32.toBitVec_or, BitVec.toNat_or]; rfl
theorem ex_u_xor (x y : Int32) : ex_u (x ^^^ y) = ex_t (Nat.xor (ex_t (ex_u x)) (ex_t (ex_u y))) := by
  rw [ex_u_of, ← ex_u_tn x, ← ex_u_tn y, Int32.toBitVec_xor, BitVec.toNat_xor]; rfl
theorem ex_u_div {x y : Int32} (hx : 2147483648 ≤ ex_u x) (hy : 2147483649 ≤ ex_u y) : ex_u (x / y) = (ex_u x - 2147483648) / (ex_u y - 2147483648) + 2147483648 := by
  have l1 := ex_u_lt x
  have l2 := ex_u_lt y
  have e1 : x = nI (ex_u x - 2147483648) := ex_u_inj (by have := ex_u_int x; have h := ex_u_int (nI (ex_u x - 2147483648)); rw [nI_toInt (by omega)] at h; omega)
  have e2 : y = nI (ex_u y - 2147483648) := ex_u_inj (by have := ex_u_int y; have h := ex_u_int (nI (ex_u y - 2147483648)); rw [nI_toInt (by omega)] at h; omega)
  have d := pk_div (a := ex_u x - 2147483648) (d := ex_u y - 2147483648) (by omega) (by omega) (by omega)
  rw [← e1, ← e2] at d
  have hq : (ex_u x - 2147483648) / (ex_u y - 2147483648) ≤ ex_u x - 2147483648 := Nat.div_le_self _ _
  have h := ex_u_int (x / y)
  have d2 : (x / y).toInt = (((ex_u x - 2147483648) / (ex_u y - 2147483648) : Nat) : Int) := by rw [d, nI_toInt (by omega)]
  omega
theorem ex_u_rem {x y : Int32} (hx : 2147483648 ≤ ex_u x) (hy : 2147483649 ≤ ex_u y) : ex_u (x - x / y * y) = (ex_u x - 2147483648) % (ex_u y - 2147483648) + 2147483648 := by
  have l1 := ex_u_lt x
  have l2 := ex_u_lt y
  have e1 : x = nI (ex_u x - 2147483648) := ex_u_inj (by have := ex_u_int x; have h := ex_u_int (nI (ex_u x - 2147483648)); rw [nI_toInt (by omega)] at h; omega)
  have e2 : y = nI (ex_u y - 2147483648) := ex_u_inj (by have := ex_u_int y; have h := ex_u_int (nI (ex_u y - 2147483648)); rw [nI_toInt (by omega)] at h; omega)
  have d := pk_rem (a := ex_u x - 2147483648) (d := ex_u y - 2147483648) (by omega) (by omega) (by omega)
  rw [← e1, ← e2] at d
  have hq : (ex_u x - 2147483648) % (ex_u y - 2147483648) < ex_u y - 2147483648 := Nat.mod_lt _ (by omega)
  have h := ex_u_int (x - x / y * y)
  have d2 : (x - x / y * y).toInt = (((ex_u x - 2147483648) % (ex_u y - 2147483648) : Nat) : Int) := by rw [d, nI_toInt (by omega)]
  omega
theorem ex_bif {c : Bool} {α : Type} {a b : α} {P : α → Prop} (h : P (bif c then a else b)) : (c = true ∧ P a) ∨ (c = false ∧ P b) := by
  cases c
  · exact Or.inr ⟨rfl, h⟩
  · exact Or.inl ⟨rfl, h⟩
theorem ex_bifs {c : Bool} {α : Type} {a : Option α} {v : α} (h : (bif c then a else none) = some v) : c = true ∧ a = some v := by
  cases c
  · cases h
  · exact ⟨rfl, h⟩
theorem ex_beq {a b : Nat} (h : Nat.beq a b = true) : a = b := Nat.eq_of_beq_eq_true h
theorem ex_bne {a b : Nat} (h : Nat.beq a b = false) : a ≠ b := Nat.ne_of_beq_eq_false h
theorem ex_ble {a b : Nat} (h : Nat.ble a b = true) : a ≤ b := Nat.le_of_ble_eq_true h
theorem ex_blt {a b : Nat} (h : Nat.blt a b = true) : a < b := Nat.le_of_ble_eq_true h
theorem ex_and {a b : Bool} (h : (a && b) = true) : a = true ∧ b = true := by cases a <;> cases b <;> first | exact ⟨rfl, rfl⟩ | cases h
-- lists
theorem ex_nth_get {α : Type} (l : List α) (k : Nat) : ex_nth l k = l[k]? := by
  induction l generalizing k with
  | nil => rfl
  | cons a t ih => cases k with
    | zero => rfl
    | succ k => exact (ih k).trans (List.getElem?_cons_succ).symm
theorem ex_set_eq {α : Type} (l : List α) (k : Nat) (v : α) : ex_set l k v = l.set k v := by
  induction l generalizing k with
  | nil => rfl
  | cons a t ih => cases k with
    | zero => rfl
    | succ k => exact congrArg (a :: ·) (ih k)
theorem ex_app_eq {α : Type} (l r : List α) : ex_app l r = l ++ r := by
  induction l with
  | nil => rfl
  | cons a t ih => exact congrArg (a :: ·) ih
theorem ex_len_eq {α : Type} (l : List α) : ex_len l = l.length := by
  induction l with
  | nil => rfl
  | cons a t ih => exact congrArg (· + 1) ih
theorem ex_map_eq {α β : Type} (f : α → β) (l : List α) : ex_map f l = l.map f := by
  induction l with
  | nil => rfl
  | cons a t ih => exact congrArg (f a :: ·) ih
theorem ex_range_mem (n lo x : Nat) : x ∈ ex_range n lo ↔ lo ≤ x ∧ x < lo + n := by
  induction n generalizing lo with
  | zero => exact ⟨fun h => absurd h List.not_mem_nil, fun h => by omega⟩
  | succ n ih =>
    show x ∈ lo :: ex_range n (lo + 1) ↔ _
    rw [List.mem_cons, ih]
    omega
theorem ex_get_at {h : ex_H} {k : Nat} {c : ex_C} (e : ex_get h k = some c) : ∃ ch, h[k / 32]? = some ch ∧ ch[k % 32]? = some c := by
  unfold ex_get at e
  split at e
  · rename_i ch hc
    rw [ex_nth_get] at hc e
    exact ⟨ch, hc, e⟩
  · cases e
theorem ex_get_of {h : ex_H} {k : Nat} {c : ex_C} {ch : List ex_C} (e1 : h[k / 32]? = some ch) (e2 : ch[k % 32]? = some c) : ex_get h k = some c := by
  unfold ex_get
  rw [ex_nth_get, e1]
  exact (ex_nth_get _ _).trans e2
theorem ex_put_get {h : ex_H} {k : Nat} {c : ex_C} {j : Nat} {c' : ex_C} (e : ex_get (ex_put h k c) j = some c') : (j = k ∧ c' = c) ∨ (j ≠ k ∧ ex_get h j = some c') := by
  obtain ⟨ch, h1, h2⟩ := ex_get_at e
  unfold ex_put at h1
  split at h1
  · rename_i ck hk
    rw [ex_nth_get] at hk
    rw [ex_set_eq, List.getElem?_set] at h1
    by_cases hd : k / 32 = j / 32
    · rw [if_pos hd] at h1
      split at h1
      · cases h1
        rw [ex_set_eq, List.getElem?_set] at h2
        by_cases hm : k % 32 = j % 32
        · rw [if_pos hm] at h2
          split at h2
          · cases h2
            exact Or.inl ⟨by omega, rfl⟩
          · cases h2
        · rw [if_neg hm] at h2
          exact Or.inr ⟨fun q => hm (by rw [q]), ex_get_of (by rw [← hd]; exact hk) h2⟩
      · cases h1
    · rw [if_neg hd] at h1
      exact Or.inr ⟨fun q => hd (by rw [q]), ex_get_of h1 h2⟩
  · rename_i hn
    refine Or.inr ⟨fun q => ?_, ex_get_of h1 h2⟩
    subst q
    rw [ex_nth_get] at hn
    rw [h1] at hn
    cases hn
theorem ex_push_get {h h' : ex_H} {n : Nat} {c : ex_C} (e : ex_push h n c = some h') {j : Nat} {c' : ex_C} (g : ex_get h' j = some c') : (j = n ∧ c' = c) ∨ ex_get h j = some c' := by
  obtain ⟨ch, h1, h2⟩ := ex_get_at g
  unfold ex_push at e
  rcases ex_bif (P := fun z => z = some h') e with ⟨e0, e1⟩ | ⟨e0, e1⟩
  · obtain ⟨e2, e3⟩ := ex_bifs e1
    cases e3
    have e0 := ex_beq e0
    have e2 := ex_beq e2
    rw [ex_len_eq] at e2
    rw [ex_app_eq] at h1
    by_cases hl : j / 32 < h.length
    · rw [List.getElem?_append_left hl] at h1
      exact Or.inr (ex_get_of h1 h2)
    · rw [List.getElem?_append_right (by omega)] at h1
      have hz : j / 32 - h.length < 1 := (List.getElem?_eq_some_iff.mp h1).1
      rw [show j / 32 - h.length = 0 by omega] at h1
      cases h1
      have hz2 : j % 32 < 1 := (List.getElem?_eq_some_iff.mp h2).1
      rw [show j % 32 = 0 by omega] at h2
      cases h2
      exact Or.inl ⟨by omega, rfl⟩
  · have e0 := ex_bne e0
    split at e1
    · rename_i ck hk
      obtain ⟨e2, e3⟩ := ex_bifs e1
      cases e3
      have e2 := ex_beq e2
      rw [ex_len_eq] at e2
      rw [ex_nth_get] at hk
      rw [ex_set_eq, List.getElem?_set] at h1
      by_cases hd : n / 32 = j / 32
      · rw [if_pos hd] at h1
        split at h1
        · cases h1
          rw [ex_app_eq] at h2
          by_cases hl : j % 32 < ck.length
          · rw [List.getElem?_append_left hl] at h2
            exact Or.inr (ex_get_of (by rw [← hd]; exact hk) h2)
          · rw [List.getElem?_append_right (by omega)] at h2
            have hz : j % 32 - ck.length < 1 := (List.getElem?_eq_some_iff.mp h2).1
            rw [show j % 32 - ck.length = 0 by omega] at h2
            cases h2
            exact Or.inl ⟨by omega, rfl⟩
        · cases h1
      · rw [if_neg hd] at h1
        exact Or.inr (ex_get_of h1 h2)
    · cases e1
theorem ex_lk_mem {α : Type} {l : List (Nat × α)} {i : Nat} {v : α} (h : ex_lk l i = some v) : (i, v) ∈ l := by
  induction l with
  | nil => cases h
  | cons q t ih =>
    rcases ex_bif (P := fun z => z = some v) (show (bif Nat.beq q.1 i then some q.2 else ex_lk t i) = some v from h) with ⟨h1, h2⟩ | ⟨h1, h2⟩
    · cases h2
      have := ex_beq h1
      subst this
      exact List.mem_cons_self
    · exact List.mem_cons_of_mem _ (ih h2)
theorem ex_ovset_lk (l : List (Nat × ex_V)) (i : Nat) (v : ex_V) (j : Nat) : ex_lk (ex_ovset l i v) j = if j = i then some v else ex_lk l j := by
  induction l with
  | nil =>
    show (bif Nat.beq i j then some v else none) = _
    by_cases h : j = i
    · subst h
      rw [if_pos rfl, show Nat.beq j j = true from Nat.beq_refl j]; rfl
    · rw [if_neg h]
      cases hb : Nat.beq i j
      · rfl
      · exact absurd (ex_beq hb).symm h
  | cons q t ih =>
    show ex_lk (bif Nat.beq q.1 i then (i, v) :: t else q :: ex_ovset t i v) j = _
    cases hq : Nat.beq q.1 i
    · show (bif Nat.beq q.1 j then some q.2 else ex_lk (ex_ovset t i v) j) = if j = i then some v else (bif Nat.beq q.1 j then some q.2 else ex_lk t j)
      cases hj : Nat.beq q.1 j
      · exact ih
      · rw [if_neg (fun e => ex_bne hq (by rw [ex_beq hj, e]))]; rfl
    · show (bif Nat.beq i j then some v else ex_lk t j) = if j = i then some v else (bif Nat.beq q.1 j then some q.2 else ex_lk t j)
      rw [ex_beq hq]
      cases hj : Nat.beq i j
      · rw [if_neg (fun e => ex_bne hj e.symm)]; rfl
      · rw [if_pos (ex_beq hj).symm]; rfl
