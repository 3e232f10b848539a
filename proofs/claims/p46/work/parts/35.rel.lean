/-! what a state of the checker says of the machine's -/
def ty_vr (b : Nat) (sa : Nat → Nat) (n : Nat) (ρ : Nat → Int) (ws : va_W) (v : ty_V) (x : Value) : Prop := match v with
  | .inl (.inl t) => ∃ y : Int32, x = .int y ∧ ty_is n ρ t y.toInt
  | .inl (.inr t) => ∃ y : Int64, x = .long y ∧ ty_is n ρ t y.toInt
  | .inr (.inl q) => ∃ (j a : Nat) (ev : va_E), ty_is n ρ q.2 (j : Int) ∧ ty_kl[j]? = some q.1 ∧ ws[j]? = some (a, ev) ∧ x = .ref a
  | .inr (.inr (.inl q)) => ∃ (y z : Int64), x = .int (lg_cmp y z) ∧ ty_is n ρ q.1 y.toInt ∧ ty_is n ρ q.2 z.toInt
  | .inr (.inr (.inr (.inl i))) => (i < 100 → x = .ref (sa i)) ∧ (x = .null ∨ ∃ a, x = .ref a)
  | .inr (.inr (.inr (.inr ()))) => x = .ref b
def ty_fo (ws : va_W) (f : ty_F) (x : Value) : Prop := match f with
  | .inl q => ∃ y : Int32, x = .int y ∧ q.1 ≤ y.toInt ∧ y.toInt ≤ q.2
  | .inr (.inl ()) => ∃ y : Int64, x = .long y
  | .inr (.inr k) => ∃ (j a : Nat) (ev : va_E), ty_kl[j]? = some k ∧ ws[j]? = some (a, ev) ∧ x = .ref a
def ty_co (tys : List (ClassId × FieldType)) (ws : va_W) (c : ty_C) (ev : va_E) : Prop := match c, ev with
  | .inl o, .inr w => o.1 = w.1 ∧ ∀ (i : Nat) (f : ty_F), o.2[i]? = some f → ∃ x, w.2[i]? = some x ∧ ty_fo ws f x
  | .inr o, .inl w => (w.1, ex_ty o.1) ∈ tys ∧ o.1 ≤ 4 ∧ w.2.1 = o.2.1 ∧ ex_ak o.1 w.2 ∧ ∀ j, j < o.2.1 → ty_fo ws o.2.2 (ex_ag w.2 j)
  | _, _ => False
/-- every cell keeps to its kind -/
def ty_th (tys : List (ClassId × FieldType)) (ws : va_W) : Prop := ∀ (j k : Nat), ty_kl[j]? = some k → ∃ (a : Nat) (ev : va_E) (c : ty_C), ws[j]? = some (a, ev) ∧ ty_ct[k]? = some c ∧ ty_co tys ws c ev
def ty_sl (ev : va_E) (i : Nat) : Option Value := match ev with
  | .inr o => o.2[i]?
  | .inl a => if i < a.2.1 then some (ex_ag a.2 i) else none
/-! rows as wholes -/
def ty_ia (ws : va_W) (j i : Nat) : Int := match ws[j]? with
  | some x => (match ty_sl x.2 i with
    | some (.int y) => y.toInt
    | _ => 0)
  | none => 0
/-- how many of the first are 3 or 7 -/
def ty_cnt (f : Nat → Int) : Nat → Nat
  | 0 => 0
  | i + 1 => ty_cnt f i + (if f i = 3 ∨ f i = 7 then 1 else 0)
def ty_dl (c : Int) : Int := if 97 ≤ c ∧ c ≤ 122 then 1 else if c = 126 then 0 else -1
/-- how high a pile is behind n codes from a on -/
def ty_htn (f : Nat → Int) (a : Nat) : Nat → Int
  | 0 => 0
  | n + 1 => ty_htn f a n + ty_dl (f (a + n))
def ty_ltn (f : Nat → Int) (a : Nat) : Nat → Nat
  | 0 => 0
  | n + 1 => ty_ltn f a n + (if 97 ≤ f (a + n) ∧ f (a + n) ≤ 122 then 1 else 0)
def ty_vl (f : Nat → Int) (a n : Nat) : Prop := ∀ m, m < n → 1 ≤ ty_htn f a (m + 1)
/-- a pushed sign is that of its rank -/
def ty_sg (j : Nat) (w s : Int) : Prop := (w = 3 → s = 126) ∧ (w ≤ 6 → w ≠ 3 → ¬ (97 ≤ s ∧ s ≤ 122) ∧ s ≠ 126) ∧ (1 ≤ j → w ≤ 7)
def ty_g1 (n : Nat) (ρ : Nat → Int) (ws : va_W) (q : Nat × ty_t × ty_t × ty_V) : Prop :=
  (q.1 = 1000 ∧ ∃ (i : Nat) (v : ty_t), ty_is n ρ q.2.2.1 (i : Int) ∧ q.2.2.2 = ty_i v ∧ ty_is n ρ v (ty_cnt (ty_ia ws ty_cW.2) i : Int)) ∨
  (q.1 = 1001 ∧ ∃ (a m : Nat) (v : ty_t), ty_is n ρ q.2.1 (a : Int) ∧ ty_is n ρ q.2.2.1 ((a + m : Nat) : Int) ∧ q.2.2.2 = ty_i v ∧ ty_is n ρ v (ty_htn (ty_ia ws ty_cC.2) a m) ∧ ty_vl (ty_ia ws ty_cC.2) a m) ∨
  (q.1 = 1002 ∧ ∃ (a m : Nat) (v : ty_t) (z : Int), ty_is n ρ q.2.1 (a : Int) ∧ ty_is n ρ q.2.2.1 ((a + m : Nat) : Int) ∧ q.2.2.2 = ty_i v ∧ ty_is n ρ v z ∧ (ty_ltn (ty_ia ws ty_cC.2) a m : Int) ≤ z) ∨
  (q.1 = 1003 ∧ ∃ (b r : Nat) (v : ty_t) (z : Int), ty_is n ρ q.2.1 (b : Int) ∧ ty_is n ρ q.2.2.1 (r : Int) ∧ q.2.2.2 = ty_i v ∧ ty_is n ρ v z ∧ ((ty_ia ws ty_cT.2 b / 2 ^ r) % 2 = 1 → ∃ a m : Nat, ty_ia ws ty_cF.2 (2 * b + r) = (a : Int) ∧ ty_ia ws ty_cO.2 (2 * b + r) = ((a + m : Nat) : Int) ∧ 560 * b ≤ a ∧ ((a + m : Nat) : Int) ≤ z ∧ ty_vl (ty_ia ws ty_cC.2) a m ∧ ty_ltn (ty_ia ws ty_cC.2) a m ≤ 30)) ∨
  (q.1 = 1004 ∧ ∃ a m : Nat, ty_is n ρ q.2.1 (a : Int) ∧ ty_is n ρ q.2.2.1 ((a + m : Nat) : Int) ∧ ty_vl (ty_ia ws ty_cC.2) a m ∧ ty_ltn (ty_ia ws ty_cC.2) a m ≤ 30) ∨
  (q.1 = 1006 ∧ ∃ i : Nat, ty_is n ρ q.2.2.1 (i : Int) ∧ ∀ j, j < i → ty_sg j (ty_ia ws ty_cW.2 j) (ty_ia ws ty_cS.2 j)) ∨
  (q.1 = 1007 ∧ ∃ z : Int, ty_is n ρ q.2.1 z ∧ ¬ (97 ≤ z ∧ z ≤ 122) ∧ z ≠ 126)
/-- a bit of an int; a row that is seen fits; all do -/
def ty_bt (x y : Int) : Int := ((Int32.ofInt x >>> (Int32.ofInt y &&& 31)) &&& 1).toInt
def ty_rw (ws : va_W) (V : Nat) (k : Int) (j : Nat) : Prop := k < ty_ia ws ty_cA.2 j ∨ (0 ≤ ty_ia ws ty_cU.2 j ∧ ty_ia ws ty_cU.2 j ≤ k) ∨ ty_bt (ty_ia ws ty_cB.2 (21 * V + (ty_ia ws ty_cH.2 j).toNat)) (ty_ia ws ty_cP.2 j) = ty_ia ws ty_cI.2 j
def ty_ff (ws : va_W) (V : Nat) (k : Int) : Prop := ∀ j : Nat, (j : Int) < ty_ia ws ty_cM.2 ty_sn → ty_rw ws V k j
def ty_g2 (n : Nat) (ρ : Nat → Int) (ws : va_W) (q : Nat × ty_t × ty_t × ty_V) : Prop :=
  (q.1 = 1008 ∧ ∃ (x y : Int32) (v : ty_t), ty_is n ρ q.2.1 x.toInt ∧ ty_is n ρ q.2.2.1 y.toInt ∧ q.2.2.2 = ty_i v ∧ ty_is n ρ v (x >>> (y &&& 31)).toInt) ∨
  (q.1 = 1009 ∧ ∃ (x y : Int32) (v : ty_t), ty_is n ρ q.2.1 x.toInt ∧ ty_is n ρ q.2.2.1 y.toInt ∧ q.2.2.2 = ty_i v ∧ ty_is n ρ v ((x >>> (y &&& 31)) &&& 1).toInt) ∨
  (q.1 = 1010 ∧ ∃ (V m : Nat) (v : ty_t) (k : Int), ty_is n ρ q.2.1 (V : Int) ∧ ty_is n ρ q.2.2.1 (m : Int) ∧ q.2.2.2 = ty_i v ∧ ty_is n ρ v k ∧ ∀ j, j < m → ty_rw ws V k j) ∨
  (q.1 = 1011 ∧ ∃ (V : Nat) (k : Int) (v : ty_t) (z : Int), ty_is n ρ q.2.1 (V : Int) ∧ ty_is n ρ q.2.2.1 k ∧ q.2.2.2 = ty_i v ∧ ty_is n ρ v z ∧ (z = 1 → ty_ff ws V k) ∧ (z = 0 → ¬ ty_ff ws V k)) ∨
  (q.1 = 1012 ∧ ∃ (k : Int) (u : Nat), ty_is n ρ q.2.1 k ∧ ty_is n ρ q.2.2.1 (u : Int) ∧ ∃ V, V < u ∧ ty_ff ws V k) ∨
  (q.1 = 1013 ∧ ∃ (k : Int) (u : Nat), ty_is n ρ q.2.1 k ∧ ty_is n ρ q.2.2.1 (u : Int) ∧ ∀ V, V < u → ¬ ty_ff ws V k) ∨
  (q.1 = 1014 ∧ ∃ (k u : Int), ty_is n ρ q.2.1 k ∧ ty_is n ρ q.2.2.1 u ∧ ∀ V : Nat, u < (V : Int) → V ≤ 99 → ¬ ty_ff ws V k)
/-- an int of the script, by its place -/
def ty_g3 (sa : Nat → Nat) (n : Nat) (ρ : Nat → Int) (q : Nat × ty_t × ty_t × ty_V) : Prop := q.1 = 1015 ∧ ∃ (i : Nat) (v : ty_t), ty_is n ρ q.2.2.1 (i : Int) ∧ q.2.2.2 = ty_i v ∧ ty_is n ρ v ((sa (1000 + i) : Int) - 2147483648)
def ty_gh (sa : Nat → Nat) (n : Nat) (ρ : Nat → Int) (ws : va_W) (q : Nat × ty_t × ty_t × ty_V) : Prop := ty_g1 n ρ ws q ∨ ty_g2 n ρ ws q ∨ ty_g3 sa n ρ q
theorem ty_g2_1 {n : Nat} {ρ : Nat → Int} {ws : va_W} {q : Nat × ty_t × ty_t × ty_V} (h : ty_g2 n ρ ws q) : 1008 ≤ q.1 := by
  rcases h with ⟨e, -⟩ | ⟨e, -⟩ | ⟨e, -⟩ | ⟨e, -⟩ | ⟨e, -⟩ | ⟨e, -⟩ | ⟨e, -⟩ <;> omega
def ty_k1 (b : Nat) (sa : Nat → Nat) (n : Nat) (ρ : Nat → Int) (ws : va_W) (q : Nat × ty_t × ty_t × ty_V) : Prop := (ty_isG q.1 = false ∧ ∃ (j i a : Nat) (ev : va_E) (x : Value), ty_is n ρ q.2.1 (j : Int) ∧ ty_is n ρ q.2.2.1 (i : Int) ∧ ty_kl[j]? = some q.1 ∧ ws[j]? = some (a, ev) ∧ ty_sl ev i = some x ∧ ty_isK q.2.2.2 = true ∧ ty_vr b sa n ρ ws q.2.2.2 x) ∨ (ty_isG q.1 = true ∧ ty_gh sa n ρ ws q)
def ty_Kr (b : Nat) (sa : Nat → Nat) (n : Nat) (ρ : Nat → Int) (ws : va_W) (K : ty_K) : Prop := ∀ q ∈ K, ty_k1 b sa n ρ ws q
/-- what may not change has not -/
def ty_frm (ms : ty_M) (w0 ws : va_W) : Prop := ∀ (j k : Nat), ty_kl[j]? = some k → ∀ (a : Nat) (ev0 : va_E), w0[j]? = some (a, ev0) → ∃ ev, ws[j]? = some (a, ev) ∧ ∀ i, ty_al ms k (some i) = false → ty_sl ev i = ty_sl ev0 i
def ty_sr (b : Nat) (sa : Nat → Nat) (n : Nat) (ρ : Nat → Int) (ws : va_W) : List ty_V → List Value → Prop
  | [], [] => True
  | v :: s, x :: xs => ty_vr b sa n ρ ws v x ∧ ty_sr b sa n ρ ws s xs
  | _, _ => False
def ty_lr (b : Nat) (sa : Nat → Nat) (n : Nat) (ρ : Nat → Int) (ws : va_W) : ty_L → List (Nat × Value) → Prop
  | [], [] => True
  | q :: s, x :: xs => (q.1 = x.1 ∧ ty_vr b sa n ρ ws q.2 x.2) ∧ ty_lr b sa n ρ ws s xs
  | _, _ => False
section TYM
variable {b : Nat} {sa : Nat → Nat} {n n' : Nat} {ρ ρ' : Nat → Int} {tys : List (ClassId × FieldType)} {ws ws' : va_W} {ms : ty_M}
theorem ty_vr.mono (ha : ty_ag n ρ ρ') (hn : n ≤ n') (hx : ex_xt ws ws') {v : ty_V} {x : Value} (h : ty_vr b sa n ρ ws v x) : ty_vr b sa n' ρ' ws' v x := by
  rcases v with (t | t) | q | q | i | _
  · obtain ⟨y, h1, h2⟩ := h
    exact ⟨y, h1, h2.mono ha hn⟩
  · obtain ⟨y, h1, h2⟩ := h
    exact ⟨y, h1, h2.mono ha hn⟩
  · obtain ⟨j, a, ev, h1, h2, h3, h4⟩ := h
    obtain ⟨ev', h5⟩ := hx j a ev h3
    exact ⟨j, a, ev', h1.mono ha hn, h2, h5, h4⟩
  · obtain ⟨y, z, h1, h2, h3⟩ := h
    exact ⟨y, z, h1, h2.mono ha hn, h3.mono ha hn⟩
  · exact h
  · exact h
theorem ty_sr.mono (ha : ty_ag n ρ ρ') (hn : n ≤ n') (hx : ex_xt ws ws') : ∀ {st : List ty_V} {xs : List Value}, ty_sr b sa n ρ ws st xs → ty_sr b sa n' ρ' ws' st xs
  | [], [], _ => trivial
  | _ :: _, _ :: _, h => ⟨h.1.mono ha hn hx, ty_sr.mono ha hn hx h.2⟩
  | [], _ :: _, h => h.elim
  | _ :: _, [], h => h.elim
theorem ty_lr.mono (ha : ty_ag n ρ ρ') (hn : n ≤ n') (hx : ex_xt ws ws') : ∀ {lv : ty_L} {lw : List (Nat × Value)}, ty_lr b sa n ρ ws lv lw → ty_lr b sa n' ρ' ws' lv lw
  | [], [], _ => trivial
  | _ :: _, _ :: _, h => ⟨⟨h.1.1, h.1.2.mono ha hn hx⟩, ty_lr.mono ha hn hx h.2⟩
  | [], _ :: _, h => h.elim
  | _ :: _, [], h => h.elim
theorem ty_g1.mono (ha : ty_ag n ρ ρ') (hn : n ≤ n') {q : Nat × ty_t × ty_t × ty_V} (h : ty_g1 n ρ ws q) : ty_g1 n' ρ' ws q := by
  rcases h with ⟨e, i, v, h1, h2, h3⟩ | ⟨e, a, m, v, h1, h2, h3, h4, h5⟩ | ⟨e, a, m, v, z, h1, h2, h3, h4, h5⟩ | ⟨e, b, r, v, z, h1, h2, h3, h4, h5⟩ | ⟨e, a, m, h1, h2, h3⟩ | ⟨e, i, h1, h2⟩ | ⟨e, z, h1, h2⟩
  · exact Or.inl ⟨e, i, v, h1.mono ha hn, h2, h3.mono ha hn⟩
  · exact Or.inr (Or.inl ⟨e, a, m, v, h1.mono ha hn, h2.mono ha hn, h3, h4.mono ha hn, h5⟩)
  · exact Or.inr (Or.inr (Or.inl ⟨e, a, m, v, z, h1.mono ha hn, h2.mono ha hn, h3, h4.mono ha hn, h5⟩))
  · exact Or.inr (Or.inr (Or.inr (Or.inl ⟨e, b, r, v, z, h1.mono ha hn, h2.mono ha hn, h3, h4.mono ha hn, h5⟩)))
  · exact Or.inr (Or.inr (Or.inr (Or.inr (Or.inl ⟨e, a, m, h1.mono ha hn, h2.mono ha hn, h3⟩))))
  · exact Or.inr (Or.inr (Or.inr (Or.inr (Or.inr (Or.inl ⟨e, i, h1.mono ha hn, h2⟩)))))
  · exact Or.inr (Or.inr (Or.inr (Or.inr (Or.inr (Or.inr ⟨e, z, h1.mono ha hn, h2⟩)))))
theorem ty_g2.mono (ha : ty_ag n ρ ρ') (hn : n ≤ n') {q : Nat × ty_t × ty_t × ty_V} (h : ty_g2 n ρ ws q) : ty_g2 n' ρ' ws q := by
  rcases h with ⟨e, x, y, v, h1, h2, h3, h4⟩ | ⟨e, x, y, v, h1, h2, h3, h4⟩ | ⟨e, V, m, v, k, h1, h2, h3, h4, h5⟩ | ⟨e, V, k, v, z, h1, h2, h3, h4, h5⟩ | ⟨e, k, u, h1, h2, h3⟩ | ⟨e, k, u, h1, h2, h3⟩ | ⟨e, k, u, h1, h2, h3⟩
  · exact Or.inl ⟨e, x, y, v, h1.mono ha hn, h2.mono ha hn, h3, h4.mono ha hn⟩
  · exact Or.inr (Or.inl ⟨e, x, y, v, h1.mono ha hn, h2.mono ha hn, h3, h4.mono ha hn⟩)
  · exact Or.inr (Or.inr (Or.inl ⟨e, V, m, v, k, h1.mono ha hn, h2.mono ha hn, h3, h4.mono ha hn, h5⟩))
  · exact Or.inr (Or.inr (Or.inr (Or.inl ⟨e, V, k, v, z, h1.mono ha hn, h2.mono ha hn, h3, h4.mono ha hn, h5⟩)))
  · exact Or.inr (Or.inr (Or.inr (Or.inr (Or.inl ⟨e, k, u, h1.mono ha hn, h2.mono ha hn, h3⟩))))
  · exact Or.inr (Or.inr (Or.inr (Or.inr (Or.inr (Or.inl ⟨e, k, u, h1.mono ha hn, h2.mono ha hn, h3⟩)))))
  · exact Or.inr (Or.inr (Or.inr (Or.inr (Or.inr (Or.inr ⟨e, k, u, h1.mono ha hn, h2.mono ha hn, h3⟩)))))
theorem ty_gh.mono (ha : ty_ag n ρ ρ') (hn : n ≤ n') {q : Nat × ty_t × ty_t × ty_V} (h : ty_gh sa n ρ ws q) : ty_gh sa n' ρ' ws q := by
  rcases h with h | h | ⟨e, i, v, h1, h2, h3⟩
  · exact Or.inl (h.mono ha hn)
  · exact Or.inr (Or.inl (h.mono ha hn))
  · exact Or.inr (Or.inr ⟨e, i, v, h1.mono ha hn, h2, h3.mono ha hn⟩)
theorem ty_Kr.mono (ha : ty_ag n ρ ρ') (hn : n ≤ n') {K : ty_K} (h : ty_Kr b sa n ρ ws K) : ty_Kr b sa n' ρ' ws K := fun q hq => by
  rcases h q hq with ⟨h0, j, i, a, ev, x, h1, h2, h3, h4, h5, h6, h7⟩ | ⟨h0, h1⟩
  · exact Or.inl ⟨h0, j, i, a, ev, x, h1.mono ha hn, h2.mono ha hn, h3, h4, h5, h6, h7.mono ha hn ex_xt.rf⟩
  · exact Or.inr ⟨h0, h1.mono ha hn⟩
theorem ty_sr_cons {v : ty_V} {st : List ty_V} {xs : List Value} (h : ty_sr b sa n ρ ws (v :: st) xs) : ∃ x xr, xs = x :: xr ∧ ty_vr b sa n ρ ws v x ∧ ty_sr b sa n ρ ws st xr := by
  cases xs with
  | nil => exact h.elim
  | cons x xr => exact ⟨x, xr, rfl, h.1, h.2⟩
theorem ty_sr_nil {xs : List Value} (h : ty_sr b sa n ρ ws [] xs) : xs = [] := by
  cases xs with
  | nil => rfl
  | cons x xr => exact h.elim
theorem ty_sr_app : ∀ {s t : List ty_V} {xs ys : List Value}, ty_sr b sa n ρ ws s xs → ty_sr b sa n ρ ws t ys → ty_sr b sa n ρ ws (s ++ t) (xs ++ ys)
  | [], _, [], _, _, h => h
  | _ :: _, _, _ :: _, _, h, k => ⟨h.1, ty_sr_app h.2 k⟩
  | [], _, _ :: _, _, h, _ => h.elim
  | _ :: _, _, [], _, h, _ => h.elim
theorem ty_cat_ok {v : ty_V} {x : Value} (h : ty_vr b sa n ρ ws v x) : x.category = ty_cat v := by
  rcases v with (t | t) | q | q | i | _
  · obtain ⟨y, rfl, -⟩ := h; rfl
  · obtain ⟨y, rfl, -⟩ := h; rfl
  · obtain ⟨j, a, ev, -, -, -, rfl⟩ := h; rfl
  · obtain ⟨y, z, rfl, -⟩ := h; rfl
  · rcases h.2 with rfl | ⟨a, rfl⟩ <;> rfl
  · cases (show x = .ref b from h); rfl
theorem ty_isR_ok {v : ty_V} {x : Value} (h : ty_vr b sa n ρ ws v x) (hk : ty_isR v = true) : ∃ a, x = .ref a := by
  rcases v with (t | t) | q | q | i | _
  · cases hk
  · cases hk
  · obtain ⟨j, a, ev, -, -, -, rfl⟩ := h; exact ⟨a, rfl⟩
  · cases hk
  · exact ⟨_, h.1 (Nat.le_of_ble_eq_true hk)⟩
  · exact ⟨_, h⟩
theorem ty_isI_ok {v : ty_V} {x : Value} (h : ty_vr b sa n ρ ws v x) (hk : ty_isI v = true) : ∃ y : Int32, x = .int y := by
  rcases v with (t | t) | q | q | i | _
  · exact ⟨h.choose, h.choose_spec.1⟩
  all_goals cases hk
theorem ty_isJ_ok {v : ty_V} {x : Value} (h : ty_vr b sa n ρ ws v x) (hk : ty_isJ v = true) : ∃ y : Int64, x = .long y := by
  rcases v with (t | t) | q | q | i | _
  · cases hk
  · exact ⟨h.choose, h.choose_spec.1⟩
  all_goals cases hk
theorem ty_lr_lk : ∀ {lv : ty_L} {lw : List (Nat × Value)} {i : Nat} {v : ty_V}, ty_lr b sa n ρ ws lv lw → ex_lk lv i = some v → ∃ (k : Nat) (x : Value), lw[k]? = some (i, x) ∧ ty_vr b sa n ρ ws v x
  | [], _, _, _, _, hk => by cases hk
  | _ :: _, [], _, _, h, _ => h.elim
  | q :: s, x :: xs, i, v, h, hk => by
    rcases ex_bif (P := fun z => z = some v) (show (bif Nat.beq q.1 i then some q.2 else ex_lk s i) = some v from hk) with ⟨h1, h2⟩ | ⟨h1, h2⟩
    · cases h2
      have e := ex_beq h1
      refine ⟨0, x.2, ?_, h.1.2⟩
      show some x = some (i, x.2)
      rw [← e, h.1.1]
    · obtain ⟨k, y, h3, h4⟩ := ty_lr_lk h.2 h2
      exact ⟨k + 1, y, by rw [List.getElem?_cons_succ]; exact h3, h4⟩
theorem ty_lr_del (i : Nat) : ∀ {lv : ty_L} {lw : List (Nat × Value)}, ty_lr b sa n ρ ws lv lw → ty_lr b sa n ρ ws (ty_del lv i) (lw.filter (fun q => !(q.1 == i) && !(q.1 + 1 == i && q.2.category == 2)))
  | [], [], _ => trivial
  | [], _ :: _, h => h.elim
  | _ :: _, [], h => h.elim
  | q :: s, x :: xs, h => by
    have ih := ty_lr_del i h.2
    have e1 : (!(Nat.beq q.1 i) && !(Nat.beq (q.1 + 1) i && Nat.beq (ty_cat q.2) 2)) = (!(x.1 == i) && !(x.1 + 1 == i && x.2.category == 2)) := by
      rw [ty_cat_ok h.1.2, ← h.1.1, ex_beq_b, ex_beq_b, ex_beq_b]
    show ty_lr b sa n ρ ws (bif (!(Nat.beq q.1 i) && !(Nat.beq (q.1 + 1) i && Nat.beq (ty_cat q.2) 2)) then q :: ty_del s i else ty_del s i) _
    rw [e1, List.filter_cons]
    cases hc : (!(x.1 == i) && !(x.1 + 1 == i && x.2.category == 2)) with
    | true => exact ⟨h.1, ih⟩
    | false => exact ih
theorem ty_lr_del2 (i : Nat) : ∀ {lv : ty_L} {lw : List (Nat × Value)}, ty_lr b sa n ρ ws lv lw → ty_lr b sa n ρ ws (ty_del2 lv i) (lw.filter (fun q => !(q.1 == i) && (!(q.1 == i + 1) && !(q.1 + 1 == i && q.2.category == 2))))
  | [], [], _ => trivial
  | [], _ :: _, h => h.elim
  | _ :: _, [], h => h.elim
  | q :: s, x :: xs, h => by
    have ih := ty_lr_del2 i h.2
    have e1 : (!(Nat.beq q.1 i) && (!(Nat.beq q.1 (i + 1)) && !(Nat.beq (q.1 + 1) i && Nat.beq (ty_cat q.2) 2))) = (!(x.1 == i) && (!(x.1 == i + 1) && !(x.1 + 1 == i && x.2.category == 2))) := by
      rw [ty_cat_ok h.1.2, ← h.1.1, ex_beq_b, ex_beq_b, ex_beq_b, ex_beq_b]
    show ty_lr b sa n ρ ws (bif (!(Nat.beq q.1 i) && (!(Nat.beq q.1 (i + 1)) && !(Nat.beq (q.1 + 1) i && Nat.beq (ty_cat q.2) 2))) then q :: ty_del2 s i else ty_del2 s i) _
    rw [e1, List.filter_cons]
    cases hc : (!(x.1 == i) && (!(x.1 == i + 1) && !(x.1 + 1 == i && x.2.category == 2))) with
    | true => exact ⟨h.1, ih⟩
    | false => exact ih
theorem ty_sum_le : ∀ {st : List ty_V} {xs : List Value}, ty_sr b sa n ρ ws st xs → (xs.map fun v => v.category).sum ≤ 2 * st.length
  | [], [], _ => Nat.le_refl 0
  | [], _ :: _, h => h.elim
  | _ :: _, [], h => h.elim
  | v :: t, x :: r, h => by
    have ih := ty_sum_le h.2
    have := lv_cat x
    rw [List.map_cons, List.sum_cons, List.length_cons]
    omega
/-- cells by number -/
theorem ty_at {j : Nat} {a a' : Nat} {ev ev' : va_E} (h1 : ws[j]? = some (a, ev)) (h2 : ws[j]? = some (a', ev')) : a = a' ∧ ev = ev' := by
  rw [h1] at h2
  cases h2
  exact ⟨rfl, rfl⟩
theorem ty_fo.mono (hx : ex_xt ws ws') {f : ty_F} {x : Value} (h : ty_fo ws f x) : ty_fo ws' f x := by
  rcases f with q | _ | k
  · exact h
  · exact h
  · obtain ⟨j, a, ev, h1, h2, h3⟩ := h
    obtain ⟨ev', h4⟩ := hx j a ev h2
    exact ⟨j, a, ev', h1, h4, h3⟩
theorem ty_co.mono (hx : ex_xt ws ws') {c : ty_C} {ev : va_E} (h : ty_co tys ws c ev) : ty_co tys ws' c ev := by
  rcases c with o | o <;> rcases ev with w | w
  · exact h
  · exact ⟨h.1, fun i f hi => by obtain ⟨x, h1, h2⟩ := h.2 i f hi; exact ⟨x, h1, h2.mono hx⟩⟩
  · exact ⟨h.1, h.2.1, h.2.2.1, h.2.2.2.1, fun j hj => (h.2.2.2.2 j hj).mono hx⟩
  · exact h
/-- a cell's new content: every cell keeps to its kind still -/
theorem ty_th.put (h : ty_th tys ws) {j k a : Nat} {ev ev' : va_E} {c : ty_C} (hk : ty_kl[j]? = some k) (hj : ws[j]? = some (a, ev)) (hc : ty_ct[k]? = some c) (hv : ty_co tys (ws.set j (a, ev')) c ev') : ty_th tys (ws.set j (a, ev')) := by
  intro i k' hi
  have hx : ex_xt ws (ws.set j (a, ev')) := ex_xt.set hj
  by_cases e : j = i
  · subst e
    rw [hk] at hi
    cases hi
    exact ⟨a, ev', c, by rw [List.getElem?_set_self (List.getElem?_eq_some_iff.mp hj).1], hc, hv⟩
  · obtain ⟨a', ev'', c', h1, h2, h3⟩ := h i k' hi
    exact ⟨a', ev'', c', by rw [List.getElem?_set_ne e]; exact h1, h2, h3.mono hx⟩
theorem ty_frm.put {w0 : va_W} (h : ty_frm ms w0 ws) {j k a : Nat} {ev ev' : va_E} (hk : ty_kl[j]? = some k) (hj : ws[j]? = some (a, ev)) (hs : ∀ i, ty_al ms k (some i) = false → ty_sl ev' i = ty_sl ev i) : ty_frm ms w0 (ws.set j (a, ev')) := by
  intro i k' hi a0 ev0 h0
  obtain ⟨ev1, h1, h2⟩ := h i k' hi a0 ev0 h0
  by_cases e : j = i
  · subst e
    rw [hk] at hi
    cases hi
    obtain ⟨rfl, rfl⟩ := ty_at hj h1
    exact ⟨ev', by rw [List.getElem?_set_self (List.getElem?_eq_some_iff.mp hj).1], fun i hi => (hs i hi).trans (h2 i hi)⟩
  · exact ⟨ev1, by rw [List.getElem?_set_ne e]; exact h1, h2⟩
theorem ty_df_ok0 {e : ty_E} (h : ty_er ρ e) {t u : ty_t} {x y : Int} (hs : ty_df e t u = true) (ht : ty_is e.1 ρ t x) (hu : ty_is e.1 ρ u y) : x ≠ y := by
  have h3 := ty_hi_ok h.1 (ty_add t u (-1))
  have h4 := ty_lo_ok h.1 (ty_add t u (-1))
  rw [ty_sub_ev, ht.2, hu.2] at h3 h4
  rcases Bool.or_eq_true _ _ |>.mp hs with h1 | h1
  · have h1 := ty_le_t h1
    omega
  · have h1 := ty_le_t h1
    omega
theorem ty_ia_put {j j' i a : Nat} {ev ev' : va_E} (hj : ws[j]? = some (a, ev)) (h : j' = j → ty_sl ev' i = ty_sl ev i) : ty_ia (ws.set j (a, ev')) j' i = ty_ia ws j' i := by
  unfold ty_ia
  by_cases e : j = j'
  · subst e
    rw [List.getElem?_set_self (List.getElem?_eq_some_iff.mp hj).1, hj]
    dsimp only
    rw [h rfl]
  · rw [List.getElem?_set_ne e]
theorem ty_cnt_cg {f g : Nat → Int} : ∀ {i : Nat}, (∀ t, t < i → g t = f t) → ty_cnt g i = ty_cnt f i
  | 0, _ => rfl
  | i + 1, h => by
    show ty_cnt g i + _ = ty_cnt f i + _
    rw [ty_cnt_cg (fun t ht => h t (by omega)), h i (by omega)]
theorem ty_htn_cg {f g : Nat → Int} {a : Nat} : ∀ {n : Nat}, (∀ t, a ≤ t → t < a + n → g t = f t) → ty_htn g a n = ty_htn f a n
  | 0, _ => rfl
  | n + 1, h => by
    show ty_htn g a n + _ = ty_htn f a n + _
    rw [ty_htn_cg (fun t h1 h2 => h t h1 (by omega)), h (a + n) (by omega) (by omega)]
theorem ty_ltn_cg {f g : Nat → Int} {a : Nat} : ∀ {n : Nat}, (∀ t, a ≤ t → t < a + n → g t = f t) → ty_ltn g a n = ty_ltn f a n
  | 0, _ => rfl
  | n + 1, h => by
    show ty_ltn g a n + _ = ty_ltn f a n + _
    rw [ty_ltn_cg (fun t h1 h2 => h t h1 (by omega)), h (a + n) (by omega) (by omega)]
theorem ty_vl_cg {f g : Nat → Int} {a n : Nat} (h : ∀ t, a ≤ t → t < a + n → g t = f t) (hv : ty_vl f a n) : ty_vl g a n := fun m hm => by
  rw [ty_htn_cg (fun t h1 h2 => h t h1 (by omega))]
  exact hv m hm
/-- all that an entry hangs on is as it was -/
theorem ty_g1.cg {q : Nat × ty_t × ty_t × ty_V} (h : ty_g1 n ρ ws q) (hw : ∀ p ∈ ty_wc q.1, ∀ i, ty_ia ws' p.2 i = ty_ia ws p.2 i) : ty_g1 n ρ ws' q := by
  rcases h with ⟨e, i, v, h1, h2, h3⟩ | ⟨e, a, m, v, h1, h2, h3, h4, h5⟩ | ⟨e, a, m, v, z, h1, h2, h3, h4, h5⟩ | ⟨e, b, r, v, z, h1, h2, h3, h4, h5⟩ | ⟨e, a, m, h1, h2, h3⟩ | ⟨e, i, h1, h2⟩ | ⟨e, z, h1, h2⟩
  · have c := hw ty_cW (by rw [e]; exact List.mem_cons_self)
    exact Or.inl ⟨e, i, v, h1, h2, by rw [ty_cnt_cg (fun t _ => c t)]; exact h3⟩
  · have c := hw ty_cC (by rw [e]; exact List.mem_cons_self)
    exact Or.inr (Or.inl ⟨e, a, m, v, h1, h2, h3, by rw [ty_htn_cg (fun t _ _ => c t)]; exact h4, ty_vl_cg (fun t _ _ => c t) h5⟩)
  · have c := hw ty_cC (by rw [e]; exact List.mem_cons_self)
    exact Or.inr (Or.inr (Or.inl ⟨e, a, m, v, z, h1, h2, h3, h4, by rw [ty_ltn_cg (fun t _ _ => c t)]; exact h5⟩))
  · have c1 := hw ty_cT (by rw [e]; exact List.mem_cons_self)
    have c2 := hw ty_cF (by rw [e]; exact List.mem_cons_of_mem _ List.mem_cons_self)
    have c3 := hw ty_cO (by rw [e]; exact List.mem_cons_of_mem _ (List.mem_cons_of_mem _ List.mem_cons_self))
    have c4 := hw ty_cC (by rw [e]; exact List.mem_cons_of_mem _ (List.mem_cons_of_mem _ (List.mem_cons_of_mem _ List.mem_cons_self)))
    refine Or.inr (Or.inr (Or.inr (Or.inl ⟨e, b, r, v, z, h1, h2, h3, h4, fun hb => ?_⟩)))
    rw [c1] at hb
    obtain ⟨a, m, g1, g2, g3, g4, g5, g6⟩ := h5 hb
    exact ⟨a, m, by rw [c2]; exact g1, by rw [c3]; exact g2, g3, g4, ty_vl_cg (fun t _ _ => c4 t) g5, by rw [ty_ltn_cg (fun t _ _ => c4 t)]; exact g6⟩
  · have c := hw ty_cC (by rw [e]; exact List.mem_cons_self)
    exact Or.inr (Or.inr (Or.inr (Or.inr (Or.inl ⟨e, a, m, h1, h2, ty_vl_cg (fun t _ _ => c t) h3.1, by rw [ty_ltn_cg (fun t _ _ => c t)]; exact h3.2⟩))))
  · have c1 := hw ty_cW (by rw [e]; exact List.mem_cons_self)
    have c2 := hw ty_cS (by rw [e]; exact List.mem_cons_of_mem _ List.mem_cons_self)
    exact Or.inr (Or.inr (Or.inr (Or.inr (Or.inr (Or.inl ⟨e, i, h1, fun j hj => by rw [c1, c2]; exact h2 j hj⟩)))))
  · exact Or.inr (Or.inr (Or.inr (Or.inr (Or.inr (Or.inr ⟨e, z, h1, h2⟩)))))
theorem ty_ff_cg (hw : ∀ p ∈ ty_fw, ∀ i, ty_ia ws' p.2 i = ty_ia ws p.2 i) : ty_rw ws' = ty_rw ws ∧ ty_ff ws' = ty_ff ws := by
  have c1 := hw ty_cB List.mem_cons_self
  have c2 := hw ty_cH (List.mem_cons_of_mem _ List.mem_cons_self)
  have c3 := hw ty_cP (List.mem_cons_of_mem _ (List.mem_cons_of_mem _ List.mem_cons_self))
  have c4 := hw ty_cI (List.mem_cons_of_mem _ (List.mem_cons_of_mem _ (List.mem_cons_of_mem _ List.mem_cons_self)))
  have c5 := hw ty_cA (List.mem_cons_of_mem _ (List.mem_cons_of_mem _ (List.mem_cons_of_mem _ (List.mem_cons_of_mem _ List.mem_cons_self))))
  have c6 := hw ty_cU (List.mem_cons_of_mem _ (List.mem_cons_of_mem _ (List.mem_cons_of_mem _ (List.mem_cons_of_mem _ (List.mem_cons_of_mem _ List.mem_cons_self)))))
  have c7 := hw ty_cM (List.mem_cons_of_mem _ (List.mem_cons_of_mem _ (List.mem_cons_of_mem _ (List.mem_cons_of_mem _ (List.mem_cons_of_mem _ (List.mem_cons_of_mem _ List.mem_cons_self))))))
  have hr : ty_rw ws' = ty_rw ws := by
    funext V k j
    unfold ty_rw
    rw [c5, c6, c1, c2, c3, c4]
  refine ⟨hr, ?_⟩
  funext V k
  unfold ty_ff
  rw [hr, c7]
theorem ty_g2.cg {q : Nat × ty_t × ty_t × ty_V} (h : ty_g2 n ρ ws q) (hw : ∀ p ∈ ty_wc q.1, ∀ i, ty_ia ws' p.2 i = ty_ia ws p.2 i) : ty_g2 n ρ ws' q := by
  have key : ∀ g, q.1 = g → ty_wc g = ty_fw → ty_rw ws' = ty_rw ws ∧ ty_ff ws' = ty_ff ws := fun g e hg => ty_ff_cg (by rw [e, hg] at hw; exact hw)
  rcases h with h | h | ⟨e, V, m, v, k, h1, h2, h3, h4, h5⟩ | ⟨e, V, k, v, z, h1, h2, h3, h4, h5⟩ | ⟨e, k, u, h1, h2, h3⟩ | ⟨e, k, u, h1, h2, h3⟩ | ⟨e, k, u, h1, h2, h3⟩
  · exact Or.inl h
  · exact Or.inr (Or.inl h)
  · obtain ⟨k1, k2⟩ := key _ e rfl
    exact Or.inr (Or.inr (Or.inl ⟨e, V, m, v, k, h1, h2, h3, h4, by rw [k1]; exact h5⟩))
  · obtain ⟨k1, k2⟩ := key _ e rfl
    exact Or.inr (Or.inr (Or.inr (Or.inl ⟨e, V, k, v, z, h1, h2, h3, h4, by rw [k2]; exact h5⟩)))
  · obtain ⟨k1, k2⟩ := key _ e rfl
    exact Or.inr (Or.inr (Or.inr (Or.inr (Or.inl ⟨e, k, u, h1, h2, by rw [k2]; exact h3⟩))))
  · obtain ⟨k1, k2⟩ := key _ e rfl
    exact Or.inr (Or.inr (Or.inr (Or.inr (Or.inr (Or.inl ⟨e, k, u, h1, h2, by rw [k2]; exact h3⟩)))))
  · obtain ⟨k1, k2⟩ := key _ e rfl
    exact Or.inr (Or.inr (Or.inr (Or.inr (Or.inr (Or.inr ⟨e, k, u, h1, h2, by rw [k2]; exact h3⟩)))))
theorem ty_gh.cg {q : Nat × ty_t × ty_t × ty_V} (h : ty_gh sa n ρ ws q) (hw : ∀ p ∈ ty_wc q.1, ∀ i, ty_ia ws' p.2 i = ty_ia ws p.2 i) : ty_gh sa n ρ ws' q := by
  rcases h with h | h | h
  · exact Or.inl (h.cg hw)
  · exact Or.inr (Or.inl (h.cg hw))
  · exact Or.inr (Or.inr h)
/-- a place is written that the entry does not reach -/
theorem ty_g1.wr {q : Nat × ty_t × ty_t × ty_V} {ws' : va_W} {k i0 : Nat} {e : ty_E} {u : ty_t} (h : ty_g1 e.1 ρ ws q) (he : ty_er ρ e) (hu : ty_is e.1 ρ u (i0 : Int)) (hg : ty_gk e q k u = true) (hw : ∀ p ∈ ty_wc q.1, ∀ i, (p.1 = k → i ≠ i0) → ty_ia ws' p.2 i = ty_ia ws p.2 i) : ty_g1 e.1 ρ ws' q := by
  have hg2 : ty_gk e q k u = true → (bif Nat.beq q.1 1003 then (bif Nat.beq k ty_cC.1 then (match q.2.2.2 with
    | .inl (.inl v) => ty_ent e (ty_add v u (-1))
    | _ => false) || ty_ent e (ty_pl (ty_add u q.2.1 (-560)) 1) else bif Nat.beq k ty_cT.1 then ty_df e q.2.1 u else ty_df e (ty_add q.2.2.1 q.2.1 2) u) else ty_ent e (ty_add q.2.2.1 u (-1))) = true := fun hg => by
    unfold ty_gk at hg
    rcases ex_bif (P := fun z => z = true) hg with ⟨-, h⟩ | ⟨-, h⟩
    · cases h
    · exact h
  have hg1 : ∀ {i : Nat}, q.1 ≠ 1003 → ty_is e.1 ρ q.2.2.1 (i : Int) → i ≤ i0 := by
    intro i hne hi
    have hg := hg2 hg
    have hb : Nat.beq q.1 1003 = false := by
      cases hb : Nat.beq q.1 1003 with
      | false => rfl
      | true => exact absurd (ex_beq hb) hne
    rw [hb] at hg
    have hg := ty_ent_ok he (show ty_ent e (ty_add q.2.2.1 u (-1)) = true from hg)
    rw [ty_sub_ev, hi.2, hu.2] at hg
    omega
  rcases h with ⟨e1, i, v, h1, h2, h3⟩ | ⟨e1, a, m, v, h1, h2, h3, h4, h5⟩ | ⟨e1, a, m, v, z, h1, h2, h3, h4, h5⟩ | ⟨e1, b, r, v, z, h1, h2, h3, h4, h5⟩ | ⟨e1, a, m, h1, h2, h3⟩ | ⟨e1, i, h1, h2⟩ | ⟨e1, z, h1, h2⟩
  · have c := hw ty_cW (by rw [e1]; exact List.mem_cons_self)
    have l := hg1 (by omega) h1
    exact Or.inl ⟨e1, i, v, h1, h2, by rw [ty_cnt_cg (fun t _ => c t (fun _ => by omega))]; exact h3⟩
  · have c := hw ty_cC (by rw [e1]; exact List.mem_cons_self)
    have l := hg1 (by omega) h2
    exact Or.inr (Or.inl ⟨e1, a, m, v, h1, h2, h3, by rw [ty_htn_cg (fun t _ _ => c t (fun _ => by omega))]; exact h4, ty_vl_cg (fun t _ _ => c t (fun _ => by omega)) h5⟩)
  · have c := hw ty_cC (by rw [e1]; exact List.mem_cons_self)
    have l := hg1 (by omega) h2
    exact Or.inr (Or.inr (Or.inl ⟨e1, a, m, v, z, h1, h2, h3, h4, by rw [ty_ltn_cg (fun t _ _ => c t (fun _ => by omega))]; exact h5⟩))
  · have c1 := hw ty_cT (by rw [e1]; exact List.mem_cons_self)
    have c2 := hw ty_cF (by rw [e1]; exact List.mem_cons_of_mem _ List.mem_cons_self)
    have c3 := hw ty_cO (by rw [e1]; exact List.mem_cons_of_mem _ (List.mem_cons_of_mem _ List.mem_cons_self))
    have c4 := hw ty_cC (by rw [e1]; exact List.mem_cons_of_mem _ (List.mem_cons_of_mem _ (List.mem_cons_of_mem _ List.mem_cons_self)))
    have hg := hg2 hg
    rw [show Nat.beq q.1 1003 = true by rw [e1]; rfl, h3] at hg
    have hg : (bif Nat.beq k ty_cC.1 then ty_ent e (ty_add v u (-1)) || ty_ent e (ty_pl (ty_add u q.2.1 (-560)) 1) else bif Nat.beq k ty_cT.1 then ty_df e q.2.1 u else ty_df e (ty_add q.2.2.1 q.2.1 2) u) = true := hg
    refine Or.inr (Or.inr (Or.inr (Or.inl ⟨e1, b, r, v, z, h1, h2, h3, h4, fun hb => ?_⟩)))
    have n1 : ty_cC.1 ≠ ty_cT.1 ∧ ty_cC.1 ≠ ty_cF.1 ∧ ty_cC.1 ≠ ty_cO.1 ∧ ty_cT.1 ≠ ty_cF.1 ∧ ty_cT.1 ≠ ty_cO.1 := by decide
    rcases ex_bif (P := fun z => z = true) hg with ⟨d1, d2⟩ | ⟨d1, d2⟩
    · have d1 := ex_beq d1
      rw [c1 b (fun z => by omega)] at hb
      obtain ⟨a, m, g1, g2, g3, g4, g5, g6⟩ := h5 hb
      have hr : ∀ t, a ≤ t → t < a + m → ty_ia ws' ty_cC.2 t = ty_ia ws ty_cC.2 t := fun t t1 t2 => c4 t (fun _ => by
        rcases Bool.or_eq_true _ _ |>.mp d2 with d2 | d2
        · have d2 := ty_ent_ok he d2
          rw [ty_sub_ev, h4.2, hu.2] at d2
          omega
        · have d2 := ty_ent_ok he d2
          rw [ty_pl_ev, ty_add_ev, h1.2, hu.2] at d2
          omega)
      exact ⟨a, m, by rw [c2 _ (fun z => by omega)]; exact g1, by rw [c3 _ (fun z => by omega)]; exact g2, g3, g4, ty_vl_cg hr g5, by rw [ty_ltn_cg hr]; exact g6⟩
    · have d1 := ex_bne d1
      rcases ex_bif (P := fun z => z = true) d2 with ⟨d3, d4⟩ | ⟨d3, d4⟩
      · have d3 := ex_beq d3
        have d4 := ty_df_ok0 he d4 h1 hu
        rw [c1 b (fun _ => by omega)] at hb
        obtain ⟨a, m, g1, g2, g3, g4, g5, g6⟩ := h5 hb
        have hr : ∀ t, a ≤ t → t < a + m → ty_ia ws' ty_cC.2 t = ty_ia ws ty_cC.2 t := fun t t1 t2 => c4 t (fun z => absurd z.symm d1)
        exact ⟨a, m, by rw [c2 _ (fun z => by omega)]; exact g1, by rw [c3 _ (fun z => by omega)]; exact g2, g3, g4, ty_vl_cg hr g5, by rw [ty_ltn_cg hr]; exact g6⟩
      · have d3 := ex_bne d3
        have d4 := ty_df_ok0 he d4 (ty_is_add h2 h1 2) hu
        rw [c1 b (fun z => absurd z.symm d3)] at hb
        obtain ⟨a, m, g1, g2, g3, g4, g5, g6⟩ := h5 hb
        have hr : ∀ t, a ≤ t → t < a + m → ty_ia ws' ty_cC.2 t = ty_ia ws ty_cC.2 t := fun t t1 t2 => c4 t (fun z => absurd z.symm d1)
        exact ⟨a, m, by rw [c2 _ (fun z => by omega)]; exact g1, by rw [c3 _ (fun z => by omega)]; exact g2, g3, g4, ty_vl_cg hr g5, by rw [ty_ltn_cg hr]; exact g6⟩
  · have c := hw ty_cC (by rw [e1]; exact List.mem_cons_self)
    have l := hg1 (by omega) h2
    exact Or.inr (Or.inr (Or.inr (Or.inr (Or.inl ⟨e1, a, m, h1, h2, ty_vl_cg (fun t _ _ => c t (fun _ => by omega)) h3.1, by rw [ty_ltn_cg (fun t _ _ => c t (fun _ => by omega))]; exact h3.2⟩))))
  · have c1 := hw ty_cW (by rw [e1]; exact List.mem_cons_self)
    have c2 := hw ty_cS (by rw [e1]; exact List.mem_cons_of_mem _ List.mem_cons_self)
    have l := hg1 (by omega) h1
    exact Or.inr (Or.inr (Or.inr (Or.inr (Or.inr (Or.inl ⟨e1, i, h1, fun j hj => by rw [c1 j (fun _ => by omega), c2 j (fun _ => by omega)]; exact h2 j hj⟩)))))
  · exact Or.inr (Or.inr (Or.inr (Or.inr (Or.inr (Or.inr ⟨e1, z, h1, h2⟩)))))
theorem ty_gh.wr {q : Nat × ty_t × ty_t × ty_V} {ws' : va_W} {k i0 : Nat} {e : ty_E} {u : ty_t} (h : ty_gh sa e.1 ρ ws q) (he : ty_er ρ e) (hu : ty_is e.1 ρ u (i0 : Int)) (hg : ty_gk e q k u = true) (hw : ∀ p ∈ ty_wc q.1, ∀ i, (p.1 = k → i ≠ i0) → ty_ia ws' p.2 i = ty_ia ws p.2 i) : ty_gh sa e.1 ρ ws' q := by
  rcases h with h | h
  · exact Or.inl (h.wr he hu hg hw)
  · have : 1008 ≤ q.1 := h.elim ty_g2_1 (fun h => by rw [h.1]; decide)
    unfold ty_gk at hg
    rw [show Nat.ble 1008 q.1 = true from Nat.ble_eq_true_of_le this] at hg
    cases hg
theorem ty_wc_kl (g : Nat) : ∀ p ∈ ty_wc g, ty_kl[p.2]? = some p.1 := by
  have h0 : ∀ p ∈ [ty_cW], ty_kl[p.2]? = some p.1 := by decide +kernel
  have h1 : ∀ p ∈ [ty_cC], ty_kl[p.2]? = some p.1 := by decide +kernel
  have h2 : ∀ p ∈ [ty_cT, ty_cF, ty_cO, ty_cC], ty_kl[p.2]? = some p.1 := by decide +kernel
  have h3 : ∀ p ∈ [ty_cW, ty_cS], ty_kl[p.2]? = some p.1 := by decide +kernel
  have h4 : ∀ p ∈ ty_fw, ty_kl[p.2]? = some p.1 := by decide +kernel
  intro p hp
  have hs : ∀ {a b : List (Nat × Nat)} {z : Bool}, p ∈ (bif z then a else b) → p ∈ a ∨ p ∈ b := fun {a b z} h => by
    cases z with
    | true => exact Or.inl h
    | false => exact Or.inr h
  rcases hs hp with hp | hp
  · exact h0 p hp
  rcases hs hp with hp | hp
  · exact h1 p hp
  rcases hs hp with hp | hp
  · exact h1 p hp
  rcases hs hp with hp | hp
  · exact h2 p hp
  rcases hs hp with hp | hp
  · exact h1 p hp
  rcases hs hp with hp | hp
  · exact h3 p hp
  rcases hs hp with hp | hp
  · cases hp
  rcases hs hp with hp | hp
  · exact h4 p hp
  · cases hp
end TYM
def ty_Rl (s : State) (D : va_G) (b : Nat) (sa : Nat → Nat) (A : Nat → Prop) (mL nr : Nat) (w0 : va_W) (tys : List (ClassId × FieldType)) (ms : ty_M) (ρ : Nat → Int) (e : ty_E) (lv : ty_L) (st : List ty_V) (K : ty_K) (ls : Array Slot) (xs : List Value) (ws : va_W) (H : Heap) (locs : List Loc) : Prop :=
  (∃ lw, lv_has ls mL lw ∧ ty_lr b sa e.1 ρ ws lv lw) ∧ ty_er ρ e ∧ ty_sr b sa e.1 ρ ws st xs ∧ ty_Kr b sa e.1 ρ ws K ∧ ty_th tys ws ∧ ty_frm ms w0 ws ∧ nr ≤ e.1 ∧ va_K D vwCl tys s ∧ va_P D vwCl ws H ∧ va_D A ws ∧ va_S A s.heap H locs ∧ ex_xt w0 ws
def ty_G (p : Program) (l : Launch) (en : Env) (R : Room) (s : State) (m : MethodId) (args : Array Value) (below : List Frame) (meth : Method) (c : Code) (k1 k2 : Nat) (Q : State → Prop) (D : va_G) (b : Nat) (sa : Nat → Nat) (A : Nat → Prop) (mL nr : Nat) (ρ0 : Nat → Int) (w0 : va_W) (tys : List (ClassId × FieldType)) (ms : ty_M) (pr : List ex_P) (e : ty_E) (S : ty_S) : Prop :=
  ∀ (ρ : Nat → Int), ty_ag nr ρ0 ρ → ∀ (pc : Nat) (ls : Array Slot) (xs : List Value) (ws : va_W) (H : Heap) (locs : List Loc), (∃ q r, S.1 = q :: r ∧ q.1 = pc) → (∀ q ∈ S.1, q ∈ pr) → ty_Rl s D b sa A mL nr w0 tys ms ρ e S.2.1 S.2.2.1 S.2.2.2 ls xs ws H locs →
    W p l en R s m args below meth c H locs k1 k2 Q (F0 m pc ls xs)
def ty_NN (p : Program) (l : Launch) (en : Env) (R : Room) (s : State) (m : MethodId) (args : Array Value) (below : List Frame) (meth : Method) (c : Code) (k1 k2 : Nat) (Q : State → Prop) (D : va_G) (b : Nat) (sa : Nat → Nat) (A : Nat → Prop) (mL nr : Nat) (ρ0 : Nat → Int) (w0 : va_W) (tys : List (ClassId × FieldType)) (ms : ty_M) (pr : List ex_P) (o : List (ty_E × ty_S)) : Prop := ∀ x ∈ o, x.2.1 ≠ [] ∧ ty_G p l en R s m args below meth c k1 k2 Q D b sa A mL nr ρ0 w0 tys ms pr x.1 x.2
section TYS
variable {p : Program} {l : Launch} {en : Env} {R : Room} {s : State} {m : MethodId} {args : Array Value} {below : List Frame} {meth : Method} {c : Code} {k1 k2 : Nat} {Q : State → Prop} {D : va_G} {b : Nat} {sa : Nat → Nat} {A : Nat → Prop} {mL nr : Nat} {ρ0 ρ : Nat → Int} {w0 : va_W} {tys : List (ClassId × FieldType)} {ms : ty_M} {pr : List ex_P}
variable {e : ty_E} {lv : ty_L} {st : List ty_V} {K : ty_K} {ls : Array Slot} {xs : List Value} {ws : va_W} {H : Heap} {locs : List Loc} {q : ex_P} {r : List ex_P} {o : List (ty_E × ty_S)}
theorem ty_Rl.er (h : ty_Rl s D b sa A mL nr w0 tys ms ρ e lv st K ls xs ws H locs) : ty_er ρ e := h.2.1
theorem ty_Rl.sr (h : ty_Rl s D b sa A mL nr w0 tys ms ρ e lv st K ls xs ws H locs) : ty_sr b sa e.1 ρ ws st xs := h.2.2.1
theorem ty_Rl.Kr (h : ty_Rl s D b sa A mL nr w0 tys ms ρ e lv st K ls xs ws H locs) : ty_Kr b sa e.1 ρ ws K := h.2.2.2.1
theorem ty_Rl.th (h : ty_Rl s D b sa A mL nr w0 tys ms ρ e lv st K ls xs ws H locs) : ty_th tys ws := h.2.2.2.2.1
theorem ty_Rl.fr (h : ty_Rl s D b sa A mL nr w0 tys ms ρ e lv st K ls xs ws H locs) : ty_frm ms w0 ws := h.2.2.2.2.2.1
theorem ty_Rl.nle (h : ty_Rl s D b sa A mL nr w0 tys ms ρ e lv st K ls xs ws H locs) : nr ≤ e.1 := h.2.2.2.2.2.2.1
theorem ty_Rl.hK (h : ty_Rl s D b sa A mL nr w0 tys ms ρ e lv st K ls xs ws H locs) : va_K D vwCl tys s := h.2.2.2.2.2.2.2.1
theorem ty_Rl.hP (h : ty_Rl s D b sa A mL nr w0 tys ms ρ e lv st K ls xs ws H locs) : va_P D vwCl ws H := h.2.2.2.2.2.2.2.2.1
theorem ty_Rl.hD (h : ty_Rl s D b sa A mL nr w0 tys ms ρ e lv st K ls xs ws H locs) : va_D A ws := h.2.2.2.2.2.2.2.2.2.1
theorem ty_Rl.hS (h : ty_Rl s D b sa A mL nr w0 tys ms ρ e lv st K ls xs ws H locs) : va_S A s.heap H locs := h.2.2.2.2.2.2.2.2.2.2.1
theorem ty_Rl.xt (h : ty_Rl s D b sa A mL nr w0 tys ms ρ e lv st K ls xs ws H locs) : ex_xt w0 ws := h.2.2.2.2.2.2.2.2.2.2.2
theorem ty_Rl.stk (h : ty_Rl s D b sa A mL nr w0 tys ms ρ e lv st K ls xs ws H locs) {st' : List ty_V} {xs' : List Value} (h' : ty_sr b sa e.1 ρ ws st' xs') : ty_Rl s D b sa A mL nr w0 tys ms ρ e lv st' K ls xs' ws H locs := ⟨h.1, h.2.1, h', h.2.2.2⟩
theorem ty_Rl.kn (h : ty_Rl s D b sa A mL nr w0 tys ms ρ e lv st K ls xs ws H locs) {K' : ty_K} (h' : ty_Kr b sa e.1 ρ ws K') : ty_Rl s D b sa A mL nr w0 tys ms ρ e lv st K' ls xs ws H locs := ⟨h.1, h.2.1, h.2.2.1, h', h.2.2.2.2⟩
theorem ty_Rl.loc (h : ty_Rl s D b sa A mL nr w0 tys ms ρ e lv st K ls xs ws H locs) {lv' : ty_L} {ls' : Array Slot} (h' : ∃ lw, lv_has ls' mL lw ∧ ty_lr b sa e.1 ρ ws lv' lw) : ty_Rl s D b sa A mL nr w0 tys ms ρ e lv' st K ls' xs ws H locs := ⟨h', h.2⟩
/-- more named ints, narrower ranges -/
theorem ty_Rl.env (h : ty_Rl s D b sa A mL nr w0 tys ms ρ e lv st K ls xs ws H locs) {ρ' : Nat → Int} {e' : ty_E} (ha : ty_ag e.1 ρ ρ') (hn : e.1 ≤ e'.1) (he : ty_er ρ' e') : ty_Rl s D b sa A mL nr w0 tys ms ρ' e' lv st K ls xs ws H locs := by
  obtain ⟨⟨lw, a1, a2⟩, a3, a4, a5, a6, a7, a8, a9⟩ := h
  exact ⟨⟨lw, a1, a2.mono ha hn ex_xt.rf⟩, he, a4.mono ha hn ex_xt.rf, a5.mono ha hn, a6, a7, Nat.le_trans a8 hn, a9⟩
theorem ty_Rl.nar (h : ty_Rl s D b sa A mL nr w0 tys ms ρ e lv st K ls xs ws H locs) {e' : ty_E} (hn : e'.1 = e.1) (he : ty_er ρ e') : ty_Rl s D b sa A mL nr w0 tys ms ρ e' lv st K ls xs ws H locs := h.env (fun _ _ => rfl) (by omega) he
theorem ty_Rl.push (h : ty_Rl s D b sa A mL nr w0 tys ms ρ e lv st K ls xs ws H locs) {v : ty_V} {x : Value} (h' : ty_vr b sa e.1 ρ ws v x) : ty_Rl s D b sa A mL nr w0 tys ms ρ e lv (v :: st) K ls (x :: xs) ws H locs := h.stk ⟨h', h.sr⟩
theorem ty_ag.tr {n n' : Nat} {ρ1 ρ2 ρ3 : Nat → Int} (h1 : ty_ag n ρ1 ρ2) (h2 : ty_ag n' ρ2 ρ3) (hn : n ≤ n') : ty_ag n ρ1 ρ3 := fun i hi => (h1 i hi).trans (h2 i (Nat.lt_of_lt_of_le hi hn))
theorem ty_NN.g (hN : ty_NN p l en R s m args below meth c k1 k2 Q D b sa A mL nr ρ0 w0 tys ms pr o) : ∀ x ∈ o, ty_G p l en R s m args below meth c k1 k2 Q D b sa A mL nr ρ0 w0 tys ms pr x.1 x.2 := fun x hx => (hN x hx).2
theorem ty_ft_ok (hf : ty_ft q r e lv st K = some o) (hG : ty_NN p l en R s m args below meth c k1 k2 Q D b sa A mL nr ρ0 w0 tys ms pr o) (hs : ∀ x ∈ q :: r, x ∈ pr) (ha : ty_ag nr ρ0 ρ) (hR : ty_Rl s D b sa A mL nr w0 tys ms ρ e lv st K ls xs ws H locs) : W p l en R s m args below meth c H locs k1 k2 Q (F0 m (q.1 + q.2.2.1) ls xs) := by
  unfold ty_ft at hf
  split at hf
  · cases hf
  · rename_i q' r'
    obtain ⟨h1, h2⟩ := ex_bifs hf
    cases h2
    have h1 := ex_beq h1
    exact (hG _ (List.mem_singleton.mpr rfl)).2 ρ ha _ ls xs ws H locs ⟨q', r', rfl, h1⟩ (fun x hx => hs x (List.mem_cons_of_mem _ hx)) hR
theorem ty_jp_ok {t : Nat} (hG : ex_jp pr t ≠ [] ∧ ty_G p l en R s m args below meth c k1 k2 Q D b sa A mL nr ρ0 w0 tys ms pr e (ex_jp pr t, lv, st, K)) (ha : ty_ag nr ρ0 ρ) (hR : ty_Rl s D b sa A mL nr w0 tys ms ρ e lv st K ls xs ws H locs) : W p l en R s m args below meth c H locs k1 k2 Q (F0 m t ls xs) :=
  hG.2 ρ ha t ls xs ws H locs (ex_jp_sub.2.resolve_left hG.1) ex_jp_sub.1 hR
/-- the same instruction again, in a state that says more -/
theorem ty_ag_ok {e' : ty_E} (hG : ty_G p l en R s m args below meth c k1 k2 Q D b sa A mL nr ρ0 w0 tys ms pr e' (q :: r, lv, st, K)) (hs : ∀ x ∈ q :: r, x ∈ pr) (ha : ty_ag nr ρ0 ρ) (hR : ty_Rl s D b sa A mL nr w0 tys ms ρ e' lv st K ls xs ws H locs) : W p l en R s m args below meth c H locs k1 k2 Q (F0 m q.1 ls xs) :=
  hG ρ ha q.1 ls xs ws H locs ⟨q, r, rfl, rfl⟩ hs hR
theorem ty_spl_ok {i : Nat} (hs : ty_spl e i (q :: r, lv, st, K) = some o) (hN : ty_NN p l en R s m args below meth c k1 k2 Q D b sa A mL nr ρ0 w0 tys ms pr o) (hsub : ∀ x ∈ q :: r, x ∈ pr) (ha : ty_ag nr ρ0 ρ) (hR : ty_Rl s D b sa A mL nr w0 tys ms ρ e lv st K ls xs ws H locs) : W p l en R s m args below meth c H locs k1 k2 Q (F0 m q.1 ls xs) := by
  have hb := hR.er.1 i
  have key : ∀ (S : ty_S) (l : Int) (j : Nat), ρ i = l + (j : Int) → ∀ (ns : List Nat), j ∈ ns → ∃ e', (e', S) ∈ ty_spll e i S l ns ∧ ty_er ρ e' ∧ e'.1 = e.1 := by
    intro S l j hv ns
    induction ns with
    | nil => intro hj; cases hj
    | cons a t ih =>
      intro hj
      rw [ty_spll_cons]
      rcases List.mem_cons.mp hj with rfl | hj
      · have her : ty_er ρ (e.1, (i, l + (j : Int), l + (j : Int)) :: e.2.1, e.2.2) := ⟨ty_bd_cons hR.er.1 (by omega) (by omega), hR.er.2⟩
        obtain ⟨e', h1, h2, h3⟩ := ty_prop_ok e.2.2 _ her (fun c hc => (hR.er.2 c hc).2)
        refine ⟨e', ?_, h2, h3⟩
        rw [h1]
        exact List.mem_cons_self
      · obtain ⟨e', h1, h2⟩ := ih hj
        refine ⟨e', ?_, h2⟩
        cases ty_prop e.2.2 (e.1, (i, l + (a : Int), l + (a : Int)) :: e.2.1, e.2.2) with
        | none => exact h1
        | some _ => exact List.mem_cons_of_mem _ h1
  unfold ty_spl at hs
  split at hs
  rename_i l' h' hlh
  rw [hlh] at hb
  dsimp only at hb
  injection hs with hs
  obtain ⟨e', g1, g2, g3⟩ := key (q :: r, lv, st, K) l' (ρ i - l').toNat (by omega) (ex_range ((h' - l').toNat + 1) 0) ((ex_range_mem _ _ _).mpr ⟨Nat.zero_le _, by omega⟩)
  rw [hs] at g1
  exact ty_ag_ok (hN _ g1).2 hsub ha (hR.nar g3 g2)
theorem ty_cut_ok {d : ty_t} (hd : ty_sc e.1 d) (hN : ty_NN p l en R s m args below meth c k1 k2 Q D b sa A mL nr ρ0 w0 tys ms pr (ty_cut e d (q :: r, lv, st, K))) (hsub : ∀ x ∈ q :: r, x ∈ pr) (ha : ty_ag nr ρ0 ρ) (hR : ty_Rl s D b sa A mL nr w0 tys ms ρ e lv st K ls xs ws H locs) : W p l en R s m args below meth c H locs k1 k2 Q (F0 m q.1 ls xs) := by
  unfold ty_cut at hN
  rw [ex_app_eq, ex_map_eq, ex_map_eq] at hN
  by_cases hz : ty_ev ρ d < 0
  · obtain ⟨e', i1, i2, i3⟩ := ty_rl_ok hR.er (d := ty_pl d 1) (ty_pl_sc hd) (by rw [ty_pl_ev]; omega)
    exact ty_ag_ok (hN (e', _) (List.mem_append_left _ (List.mem_map.mpr ⟨e', i1, rfl⟩))).2 hsub ha (hR.nar i3 i2)
  · obtain ⟨e', i1, i2, i3⟩ := ty_rl_ok hR.er (d := ty_add (ty_k 0) d (-1)) (ty_add_sc ty_k_sc hd) (by rw [ty_sub_ev, ty_k_ev]; omega)
    exact ty_ag_ok (hN (e', _) (List.mem_append_right _ (List.mem_map.mpr ⟨e', i1, rfl⟩))).2 hsub ha (hR.nar i3 i2)
end TYS
