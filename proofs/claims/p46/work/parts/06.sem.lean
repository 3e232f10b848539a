/-! what an executor's state says of the machine's -/
def ex_vr (ρ : Nat → Int32) (b : Nat) (ws : va_W) (v : ex_V) (x : Value) : Prop := match v with
  | .inl (.inl n) => ∃ y : Int32, x = .int y ∧ ex_u y = n
  | .inl (.inr (.inl i)) => x = .int (ρ i)
  | .inl (.inr (.inr q)) => ∃ y : Int32, x = .int y ∧ q.1 ≤ ex_u y ∧ ex_u y ≤ q.2
  | .inr (.inl none) => x = .null
  | .inr (.inl (some k)) => ∃ (a : Nat) (e : va_E), ws[k]? = some (a, e) ∧ x = .ref a
  | .inr (.inr (.inl z)) => x = .long z
  | .inr (.inr (.inr ())) => x = .ref b
def ex_er (ρ : Nat → Int32) (en : ex_E) : Prop := ∀ (i : Nat) (q : Nat × Nat), ex_nth en i = some q → q.1 ≤ ex_u (ρ i) ∧ ex_u (ρ i) ≤ q.2
def ex_ty (t : Nat) : FieldType := if t = 0 then .int else if t = 1 then .byte else if t = 2 then .long else if t = 3 then .boolean else .object "HatchLights$Scene"
def ex_ag (a : vp_A) (j : Nat) : Value := match a.2 with
  | .inl f => .int (f j)
  | .inr (.inl f) => .long (f j)
  | .inr (.inr (.inl f)) => .float (f j)
  | .inr (.inr (.inr (.inl f))) => .double (f j)
  | .inr (.inr (.inr (.inr f))) => va_rf (f j)
def ex_ak (t : Nat) (a : vp_A) : Prop := if t = 2 then ∃ f, a.2 = .inr (.inl f) else if t = 4 then ∃ f, a.2 = .inr (.inr (.inr (.inr f))) else ∃ f, a.2 = .inl f
def ex_cr (ρ : Nat → Int32) (b : Nat) (tys : List (ClassId × FieldType)) (ws : va_W) (c : ex_C) (e : va_E) : Prop := match c, e with
  | .inl o, .inr w => o.1 = w.1 ∧ o.2.length = w.2.length ∧ ∀ (k : Nat) (v : ex_V), ex_nth o.2 k = some v → ∃ x, w.2[k]? = some x ∧ ex_vr ρ b ws v x
  | .inr o, .inl w => (w.1, ex_ty o.1) ∈ tys ∧ o.1 ≤ 4 ∧ w.2.1 = o.2.1 ∧ ex_ak o.1 w.2 ∧ ∀ j, j < o.2.1 → ex_vr ρ b ws (ex_ov o.1 o.2.2 j) (ex_ag w.2 j)
  | _, _ => False
def ex_hr (ρ : Nat → Int32) (b : Nat) (tys : List (ClassId × FieldType)) (ws : va_W) (h : ex_H) (n : Nat) : Prop := ws.length = n ∧ ∀ (k : Nat) (c : ex_C), ex_get h k = some c → ∃ (a : Nat) (e : va_E), ws[k]? = some (a, e) ∧ ex_cr ρ b tys ws c e
def ex_sr (ρ : Nat → Int32) (b : Nat) (ws : va_W) : List ex_V → List Value → Prop
  | [], [] => True
  | v :: s, x :: xs => ex_vr ρ b ws v x ∧ ex_sr ρ b ws s xs
  | _, _ => False
def ex_lr (ρ : Nat → Int32) (b : Nat) (ws : va_W) : ex_L → List (Nat × Value) → Prop
  | [], [] => True
  | q :: s, x :: xs => (q.1 = x.1 ∧ ex_vr ρ b ws q.2 x.2) ∧ ex_lr ρ b ws s xs
  | _, _ => False
/-- the cells stay where they are -/
def ex_xt (ws ws' : va_W) : Prop := ∀ (k : Nat) (a : Nat) (e : va_E), ws[k]? = some (a, e) → ∃ e', ws'[k]? = some (a, e')
theorem ex_xt.rf {ws : va_W} : ex_xt ws ws := fun _ _ e h => ⟨e, h⟩
theorem ex_xt.tr {w1 w2 w3 : va_W} (h1 : ex_xt w1 w2) (h2 : ex_xt w2 w3) : ex_xt w1 w3 := fun k a e h => by
  obtain ⟨e', h'⟩ := h1 k a e h
  exact h2 k a e' h'
theorem ex_xt.set {ws : va_W} {k : Nat} {a : Nat} {e e' : va_E} (h : ws[k]? = some (a, e)) : ex_xt ws (ws.set k (a, e')) := fun j x y hj => by
  by_cases q : k = j
  · subst q
    rw [h] at hj
    cases hj
    exact ⟨e', by rw [List.getElem?_set_self (List.getElem?_eq_some_iff.mp h).1]⟩
  · exact ⟨y, by rw [List.getElem?_set_ne q]; exact hj⟩
theorem ex_xt.app {ws w : va_W} : ex_xt ws (ws ++ w) := fun k a e h => ⟨e, by rw [List.getElem?_append_left (List.getElem?_eq_some_iff.mp h).1]; exact h⟩
section EXM
variable {ρ : Nat → Int32} {b : Nat} {tys tys' : List (ClassId × FieldType)} {ws ws' : va_W}
theorem ex_vr.mono (hx : ex_xt ws ws') {v : ex_V} {x : Value} (h : ex_vr ρ b ws v x) : ex_vr ρ b ws' v x := by
  rcases v with (n | i | q) | (_ | k) | z | _
  · exact h
  · exact h
  · exact h
  · exact h
  · obtain ⟨a, e, h1, h2⟩ := h
    obtain ⟨e', h3⟩ := hx k a e h1
    exact ⟨a, e', h3, h2⟩
  · exact h
  · exact h
theorem ex_sr.mono (hx : ex_xt ws ws') : ∀ {st : List ex_V} {xs : List Value}, ex_sr ρ b ws st xs → ex_sr ρ b ws' st xs
  | [], [], _ => trivial
  | _ :: _, _ :: _, h => ⟨h.1.mono hx, ex_sr.mono hx h.2⟩
  | [], _ :: _, h => h.elim
  | _ :: _, [], h => h.elim
theorem ex_lr.mono (hx : ex_xt ws ws') : ∀ {lv : ex_L} {lw : List (Nat × Value)}, ex_lr ρ b ws lv lw → ex_lr ρ b ws' lv lw
  | [], [], _ => trivial
  | _ :: _, _ :: _, h => ⟨⟨h.1.1, h.1.2.mono hx⟩, ex_lr.mono hx h.2⟩
  | [], _ :: _, h => h.elim
  | _ :: _, [], h => h.elim
theorem ex_cr.mono (hx : ex_xt ws ws') (ht : ∀ t ∈ tys, t ∈ tys') {c : ex_C} {e : va_E} (h : ex_cr ρ b tys ws c e) : ex_cr ρ b tys' ws' c e := by
  rcases c with o | o <;> rcases e with w | w
  · exact h
  · exact ⟨h.1, h.2.1, fun k v hk => by obtain ⟨x, h1, h2⟩ := h.2.2 k v hk; exact ⟨x, h1, h2.mono hx⟩⟩
  · exact ⟨ht _ h.1, h.2.1, h.2.2.1, h.2.2.2.1, fun j hj => (h.2.2.2.2 j hj).mono hx⟩
  · exact h
theorem ex_sr_cons {v : ex_V} {st : List ex_V} {xs : List Value} (h : ex_sr ρ b ws (v :: st) xs) : ∃ x xr, xs = x :: xr ∧ ex_vr ρ b ws v x ∧ ex_sr ρ b ws st xr := by
  cases xs with
  | nil => exact h.elim
  | cons x xr => exact ⟨x, xr, rfl, h.1, h.2⟩
theorem ex_sr_nil {xs : List Value} (h : ex_sr ρ b ws [] xs) : xs = [] := by
  cases xs with
  | nil => rfl
  | cons x xr => exact h.elim
/-- an int's bounds -/
theorem ex_vr_int {v : ex_V} {x : Value} (h : ex_vr ρ b ws v x) (hi : ex_isI v = true) : ∃ y : Int32, x = .int y := by
  rcases v with (n | i | q) | v
  · exact ⟨h.choose, h.choose_spec.1⟩
  · exact ⟨_, h⟩
  · exact ⟨h.choose, h.choose_spec.1⟩
  · cases hi
theorem ex_b_ok {en : ex_E} (he : ex_er ρ en) {v : ex_V} {q : Nat × Nat} (hb : ex_b en v = some q) {y : Int32} (h : ex_vr ρ b ws v (.int y)) : q.1 ≤ ex_u y ∧ ex_u y ≤ q.2 := by
  rcases v with (n | i | r) | v
  · obtain ⟨z, h1, h2⟩ := h
    cases h1
    cases hb
    exact ⟨Nat.le_of_eq h2.symm, Nat.le_of_eq h2⟩
  · cases h
    exact he i q hb
  · obtain ⟨z, h1, h2⟩ := h
    cases h1
    cases hb
    exact h2
  · cases hb
theorem ex_b_isI {en : ex_E} {v : ex_V} {q : Nat × Nat} (hb : ex_b en v = some q) : ex_isI v = true := by
  rcases v with (n | i | r) | v <;> first | rfl | cases hb
theorem ex_cst_b {en : ex_E} {v : ex_V} {u : Nat} (hc : ex_cst en v = some u) : ex_b en v = some (u, u) := by
  unfold ex_cst at hc
  split at hc
  · rename_i q hq
    obtain ⟨h1, h2⟩ := ex_bifs hc
    cases h2
    have := ex_beq h1
    rw [hq, show q = (q.1, q.2) from rfl, ← this]
  · cases hc
theorem ex_cst_ok {en : ex_E} (he : ex_er ρ en) {v : ex_V} {u : Nat} (hc : ex_cst en v = some u) {y : Int32} (h : ex_vr ρ b ws v (.int y)) : ex_u y = u := by
  have := ex_b_ok he (ex_cst_b hc) h
  exact Nat.le_antisymm this.2 this.1
theorem ex_cst_isI {en : ex_E} {v : ex_V} {u : Nat} (hc : ex_cst en v = some u) : ex_isI v = true := ex_b_isI (ex_cst_b hc)
theorem ex_mx_ok (a c : Nat) : ex_mx a c = max a c := by
  unfold ex_mx
  cases h : Nat.ble a c
  · have : ¬ a ≤ c := fun q => by rw [Nat.ble_eq_true_of_le q] at h; cases h
    show a = _; omega
  · have := ex_ble h
    show c = _; omega
theorem ex_mn_ok (a c : Nat) : ex_mn a c = min a c := by
  unfold ex_mn
  cases h : Nat.ble a c
  · have : ¬ a ≤ c := fun q => by rw [Nat.ble_eq_true_of_le q] at h; cases h
    show c = _; omega
  · have := ex_ble h
    show a = _; omega
theorem ex_nble {a c : Nat} (h : Nat.ble a c = false) : c < a := by
  rcases Nat.lt_or_ge c a with q | q
  · exact q
  · rw [Nat.ble_eq_true_of_le q] at h; cases h
theorem ex_rf_ok {en : ex_E} (he : ex_er ρ en) {v : ex_V} {y : Int32} (h : ex_vr ρ b ws v (.int y)) {lo hi : Nat} (h1 : lo ≤ ex_u y) (h2 : ex_u y ≤ hi) : ∃ e', ex_rf en v lo hi = some e' ∧ ex_er ρ e' := by
  rcases v with (n | i | r) | v
  · obtain ⟨z, e1, e2⟩ := h
    cases e1
    refine ⟨en, ?_, he⟩
    show (bif Nat.ble lo n && Nat.ble n hi then some en else none) = _
    rw [Nat.ble_eq_true_of_le (show lo ≤ n by omega), Nat.ble_eq_true_of_le (show n ≤ hi by omega)]; rfl
  · cases h
    unfold ex_rf
    cases hn : ex_nth en i with
    | none => exact ⟨en, by simp only [hn], he⟩
    | some q =>
      have hb := he i q hn
      refine ⟨ex_set en i (ex_mx q.1 lo, ex_mn q.2 hi), ?_, fun j r hj => ?_⟩
      · simp only [hn]
        rw [Nat.ble_eq_true_of_le (show ex_mx q.1 lo ≤ ex_mn q.2 hi by rw [ex_mx_ok, ex_mn_ok]; omega)]; rfl
      · rw [ex_nth_get, ex_set_eq, List.getElem?_set] at hj
        split at hj
        · rename_i hij
          subst hij
          split at hj
          · cases hj
            show ex_mx q.1 lo ≤ _ ∧ _ ≤ ex_mn q.2 hi
            rw [ex_mx_ok, ex_mn_ok]; omega
          · cases hj
        · exact he j r (by rw [ex_nth_get]; exact hj)
  · obtain ⟨z, e1, e2⟩ := h
    cases e1
    refine ⟨en, ?_, he⟩
    show (bif Nat.ble (ex_mx r.1 lo) (ex_mn r.2 hi) then some en else none) = _
    rw [Nat.ble_eq_true_of_le (show ex_mx r.1 lo ≤ ex_mn r.2 hi by rw [ex_mx_ok, ex_mn_ok]; omega)]; rfl
  · exact ⟨en, rfl, he⟩
theorem ex_1_ok {en : ex_E} (he : ex_er ρ en) {v : ex_V} {y : Int32} (h : ex_vr ρ b ws v (.int y)) {lo hi : Nat} (h1 : lo ≤ ex_u y) (h2 : ex_u y ≤ hi) : ∃ e' ∈ ex_1 en v lo hi, ex_er ρ e' := by
  obtain ⟨e', e1, e2⟩ := ex_rf_ok he h h1 h2
  exact ⟨e', by unfold ex_1; rw [e1]; exact List.mem_singleton.mpr rfl, e2⟩
theorem ex_2_ok {en : ex_E} (he : ex_er ρ en) {v w : ex_V} {y z : Int32} (h : ex_vr ρ b ws v (.int y)) (k : ex_vr ρ b ws w (.int z)) {la ha lb hb : Nat} (h1 : la ≤ ex_u y) (h2 : ex_u y ≤ ha) (k1 : lb ≤ ex_u z) (k2 : ex_u z ≤ hb) : ∃ e' ∈ ex_2 en v la ha w lb hb, ex_er ρ e' := by
  obtain ⟨e', e1, e2⟩ := ex_rf_ok he h h1 h2
  obtain ⟨e'', f1, f2⟩ := ex_rf_ok e2 k k1 k2
  exact ⟨e'', by unfold ex_2; rw [e1]; simp only [f1]; exact List.mem_singleton.mpr rfl, f2⟩
theorem ex_same_ok {v w : ex_V} {y z : Int32} (h : ex_vr ρ b ws v (.int y)) (k : ex_vr ρ b ws w (.int z)) (hs : ex_same v w = true) : y = z := by
  rcases v with (n | i | r) | v <;> rcases w with (n' | i' | r') | w <;> first | (cases hs; done) | skip
  have := ex_beq hs
  subst this
  have h1 : Value.int y = .int (ρ i) := h
  have h2 : Value.int z = .int (ρ i) := k
  rw [← h2] at h1
  cases h1
  rfl
theorem ex_lt_ok {en : ex_E} (he : ex_er ρ en) {v w : ex_V} {y z : Int32} (h : ex_vr ρ b ws v (.int y)) (k : ex_vr ρ b ws w (.int z)) {qa qb : Nat × Nat} (ha : ex_b en v = some qa) (hb : ex_b en w = some qb) (hlt : y < z) : ∃ e' ∈ ex_lt en v w qa qb, ex_er ρ e' := by
  have a1 := ex_b_ok he ha h
  have b1 := ex_b_ok he hb k
  have l1 := ex_u_lti.mp hlt
  have l2 := ex_u_lt z
  unfold ex_lt
  cases hs : ex_same v w
  · exact ex_2_ok he h k (Nat.zero_le _) (by omega) (by omega) (by omega)
  · have := ex_same_ok h k hs
    subst this
    omega
theorem ex_ge_ok {en : ex_E} (he : ex_er ρ en) {v w : ex_V} {y z : Int32} (h : ex_vr ρ b ws v (.int y)) (k : ex_vr ρ b ws w (.int z)) {qa qb : Nat × Nat} (ha : ex_b en v = some qa) (hb : ex_b en w = some qb) (hlt : ¬ y < z) : ∃ e' ∈ ex_ge en v w qa qb, ex_er ρ e' := by
  have a1 := ex_b_ok he ha h
  have b1 := ex_b_ok he hb k
  have l1 : ¬ ex_u y < ex_u z := fun q => hlt (ex_u_lti.mpr q)
  have l2 := ex_u_lt y
  exact ex_2_ok he h k (by omega) (by omega) (Nat.zero_le _) (by omega)
theorem ex_eq_ok {en : ex_E} (he : ex_er ρ en) {v w : ex_V} {y z : Int32} (h : ex_vr ρ b ws v (.int y)) (k : ex_vr ρ b ws w (.int z)) {qa qb : Nat × Nat} (ha : ex_b en v = some qa) (hb : ex_b en w = some qb) (heq : y = z) : ∃ e' ∈ ex_eq en v w qa qb, ex_er ρ e' := by
  have a1 := ex_b_ok he ha h
  have b1 := ex_b_ok he hb k
  subst heq
  exact ex_2_ok he h k (by omega) (by omega) (by omega) (by omega)
theorem ex_ne_ok {en : ex_E} (he : ex_er ρ en) {v w : ex_V} {y z : Int32} (h : ex_vr ρ b ws v (.int y)) (k : ex_vr ρ b ws w (.int z)) {qa qb : Nat × Nat} (ha : ex_b en v = some qa) (hb : ex_b en w = some qb) (hne : ¬ y = z) : ∃ e' ∈ ex_ne en v w qa qb, ex_er ρ e' := by
  have a1 := ex_b_ok he ha h
  have b1 := ex_b_ok he hb k
  have l1 : ex_u y ≠ ex_u z := fun q => hne (ex_u_inj q)
  have ly := ex_u_lt y
  have lz := ex_u_lt z
  unfold ex_ne
  cases hs : ex_same v w
  · cases h2 : Nat.beq qb.1 qb.2
    · cases h3 : Nat.beq qa.1 qa.2
      · exact ⟨en, List.mem_singleton.mpr rfl, he⟩
      · have := ex_beq h3
        show ∃ e' ∈ ex_app (ex_1 en w 0 (qa.1 - 1)) (ex_1 en w (qa.1 + 1) 4294967295), _
        rw [ex_app_eq]
        rcases Nat.lt_or_gt_of_ne l1 with q | q
        · obtain ⟨e', i1, i2⟩ := ex_1_ok he k (show qa.1 + 1 ≤ ex_u z by omega) (show ex_u z ≤ 4294967295 by omega)
          exact ⟨e', List.mem_append_right _ i1, i2⟩
        · obtain ⟨e', i1, i2⟩ := ex_1_ok he k (Nat.zero_le _) (show ex_u z ≤ qa.1 - 1 by omega)
          exact ⟨e', List.mem_append_left _ i1, i2⟩
    · have := ex_beq h2
      show ∃ e' ∈ ex_app (ex_1 en v 0 (qb.1 - 1)) (ex_1 en v (qb.1 + 1) 4294967295), _
      rw [ex_app_eq]
      rcases Nat.lt_or_gt_of_ne l1 with q | q
      · obtain ⟨e', i1, i2⟩ := ex_1_ok he h (Nat.zero_le _) (show ex_u y ≤ qb.1 - 1 by omega)
        exact ⟨e', List.mem_append_left _ i1, i2⟩
      · obtain ⟨e', i1, i2⟩ := ex_1_ok he h (show qb.1 + 1 ≤ ex_u y by omega) (show ex_u y ≤ 4294967295 by omega)
        exact ⟨e', List.mem_append_right _ i1, i2⟩
  · exact absurd (ex_same_ok h k hs) hne
/-- what a compare says -/
def ex_cm (c : ClassFile.Cond) (y z : Int32) : Prop := match c with
  | .eq => y = z
  | .ne => ¬ y = z
  | .lt => y < z
  | .ge => ¬ y < z
  | .gt => z < y
  | .le => ¬ z < y
theorem ex_br_ok {cd : ClassFile.Cond} {en : ex_E} (he : ex_er ρ en) {v w : ex_V} {y z : Int32} (h : ex_vr ρ b ws v (.int y)) (k : ex_vr ρ b ws w (.int z)) {tf : List ex_E × List ex_E} (hb : ex_br cd en v w = some tf) : (ex_cm cd y z → ∃ e' ∈ tf.1, ex_er ρ e') ∧ (¬ ex_cm cd y z → ∃ e' ∈ tf.2, ex_er ρ e') := by
  unfold ex_br at hb
  split at hb
  · cases hb
  · rename_i qa ha
    split at hb
    · cases hb
    · rename_i qb hc
      cases cd <;> cases hb
      · exact ⟨ex_eq_ok he h k ha hc, ex_ne_ok he h k ha hc⟩
      · exact ⟨ex_ne_ok he h k ha hc, fun q => ex_eq_ok he h k ha hc (Classical.not_not.mp q)⟩
      · exact ⟨ex_lt_ok he h k ha hc, ex_ge_ok he h k ha hc⟩
      · exact ⟨ex_ge_ok he h k ha hc, fun q => ex_lt_ok he h k ha hc (Classical.not_not.mp q)⟩
      · exact ⟨ex_lt_ok he k h hc ha, ex_ge_ok he k h hc ha⟩
      · exact ⟨ex_ge_ok he k h hc ha, fun q => ex_lt_ok he k h hc ha (Classical.not_not.mp q)⟩
theorem ex_full_ok (y : Int32) : ex_vr ρ b ws ex_full (.int y) := ⟨y, rfl, Nat.zero_le _, by have := ex_u_lt y; show ex_u y ≤ 4294967295; omega⟩
theorem ex_k_ok (y : Int32) {n : Nat} (h : ex_u y = n) : ex_vr ρ b ws (ex_k n) (.int y) := ⟨y, rfl, h⟩
end EXM
