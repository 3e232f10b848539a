theorem ex_veq_ok {a b : ex_V} (h : ex_veq a b = true) : a = b := by
  rcases a with (x | x | x) | (_ | x) | x | x <;> rcases b with (y | y | y) | (_ | y) | y | y <;> first | (cases h; done) | rfl | skip
  · rw [ex_beq h]
  · rw [ex_beq h]
  · obtain ⟨h1, h2⟩ := ex_and h
    obtain ⟨x1, x2⟩ := x
    obtain ⟨y1, y2⟩ := y
    have h1 : x1 = y1 := ex_beq h1
    have h2 : x2 = y2 := ex_beq h2
    rw [h1, h2]
  · rw [ex_beq h]
  · rw [of_decide_eq_true h]
theorem ex_lq_ok {α : Type} {f : α → α → Bool} (hf : ∀ a b, f a b = true → a = b) : ∀ {l r : List α}, ex_lq f l r = true → l = r
  | [], [], _ => rfl
  | [], _ :: _, h => by cases h
  | _ :: _, [], h => by cases h
  | a :: t, b :: u, h => by
    obtain ⟨h1, h2⟩ := ex_and (show (f a b && ex_lq f t u) = true from h)
    rw [hf a b h1, ex_lq_ok hf h2]
theorem ex_pq_ok (a b : Nat × ex_V) (h : ex_pq a b = true) : a = b := by
  obtain ⟨h1, h2⟩ := ex_and h
  obtain ⟨a1, a2⟩ := a
  obtain ⟨b1, b2⟩ := b
  have h1 : a1 = b1 := ex_beq h1
  have h2 : a2 = b2 := ex_veq_ok h2
  rw [h1, h2]
theorem ex_cq_ok (a b : ex_C) (h : ex_cq a b = true) : a = b := by
  rcases a with x | x <;> rcases b with y | y <;> first | (cases h; done) | skip
  · obtain ⟨h1, h2⟩ := ex_and (show (Nat.beq x.1 y.1 && ex_lq ex_veq x.2 y.2) = true from h)
    obtain ⟨x1, x2⟩ := x
    obtain ⟨y1, y2⟩ := y
    have h1 : x1 = y1 := ex_beq h1
    have h2 : x2 = y2 := ex_lq_ok (fun _ _ => ex_veq_ok) h2
    rw [h1, h2]
  · obtain ⟨h1, h3⟩ := ex_and (show (Nat.beq x.1 y.1 && Nat.beq x.2.1 y.2.1 && ex_lq ex_pq x.2.2 y.2.2) = true from h)
    obtain ⟨h1, h2⟩ := ex_and h1
    obtain ⟨x1, x2, x3⟩ := x
    obtain ⟨y1, y2, y3⟩ := y
    have h1 : x1 = y1 := ex_beq h1
    have h2 : x2 = y2 := ex_beq h2
    have h3 : x3 = y3 := ex_lq_ok ex_pq_ok h3
    rw [h1, h2, h3]
theorem ex_hq_at : ∀ {l r : ex_H}, ex_hq l r = true → ∀ (i : Nat) (ch : List ex_C), r[i]? = some ch → ch = [] ∨ l[i]? = some ch
  | [], [], _, i, ch, h => by cases h
  | [], _ :: _, h, _, _, _ => by cases h
  | _ :: _, [], _, i, ch, h => by cases h
  | a :: t, b :: u, h, i, ch, hi => by
    obtain ⟨h1, h2⟩ := ex_and (show (ex_hb a b && ex_hq t u) = true from h)
    cases i with
    | zero =>
      cases hi
      cases b with
      | nil => exact Or.inl rfl
      | cons x y => exact Or.inr (by rw [show a = x :: y from ex_lq_ok ex_cq_ok h1]; rfl)
    | succ i =>
      rw [List.getElem?_cons_succ] at hi ⊢
      exact ex_hq_at h2 i ch hi
theorem ex_hq_ok {l r : ex_H} (h : ex_hq l r = true) {k : Nat} {c : ex_C} (hk : ex_get r k = some c) : ex_get l k = some c := by
  obtain ⟨ch, h1, h2⟩ := ex_get_at hk
  rcases ex_hq_at h _ _ h1 with rfl | h3
  · cases h2
  · exact ex_get_of h3 h2
theorem ex_eq'_ok : ∀ {l r : ex_E}, ex_eq' l r = true → ∀ (i : Nat) (q : Nat × Nat), ex_nth r i = some q → ∃ q', ex_nth l i = some q' ∧ q.1 ≤ q'.1 ∧ q'.2 ≤ q.2
  | [], [], _, i, q, h => by cases h
  | [], _ :: _, h, _, _, _ => by cases h
  | _ :: _, [], _, i, q, h => by cases h
  | a :: t, b :: u, h, i, q, hi => by
    obtain ⟨h1, h2⟩ := ex_and (show ((Nat.ble b.1 a.1 && Nat.ble a.2 b.2) && ex_eq' t u) = true from h)
    obtain ⟨h1, h3⟩ := ex_and h1
    cases i with
    | zero =>
      cases hi
      exact ⟨a, rfl, ex_ble h1, ex_ble h3⟩
    | succ i => exact ex_eq'_ok h2 i q hi
theorem ex_any_ok {α : Type} {f : α → Bool} : ∀ {l : List α}, ex_any f l = true → ∃ a ∈ l, f a = true
  | [], h => by cases h
  | a :: t, h => by
    rcases Bool.or_eq_true _ _ |>.mp (show (f a || ex_any f t) = true from h) with h | h
    · exact ⟨a, List.mem_cons_self, h⟩
    · obtain ⟨b, h1, h2⟩ := ex_any_ok h
      exact ⟨b, List.mem_cons_of_mem _ h1, h2⟩
theorem ex_every_ok {α : Type} {f : α → Bool} : ∀ {l : List α}, ex_every f l = true → ∀ a ∈ l, f a = true
  | [], _, a, ha => by cases ha
  | b :: t, h, a, ha => by
    obtain ⟨h1, h2⟩ := ex_and (show (f b && ex_every f t) = true from h)
    rcases List.mem_cons.mp ha with rfl | ha
    · exact h1
    · exact ex_every_ok h2 a ha
/-- an answer is held by one of the answers gone on with -/
theorem ex_mg_ok {bb : Bool} {l l' : List ex_A} (h : ex_mg bb l = some l') {a : ex_A} (ha : a ∈ l) : ∃ m ∈ l', (∀ (i : Nat) (q : Nat × Nat), ex_nth m.1 i = some q → ∃ q', ex_nth a.1 i = some q' ∧ q.1 ≤ q'.1 ∧ q'.2 ≤ q.2) ∧ a.2.1 = m.2.1 ∧ a.2.2.2 = m.2.2.2 ∧ ∀ (k : Nat) (c : ex_C), ex_get m.2.2.1 k = some c → ex_get a.2.2.1 k = some c := by
  unfold ex_mg at h
  rcases ex_bif (P := fun z => z = some l') h with ⟨h1, h2⟩ | ⟨h1, h2⟩
  · obtain ⟨h3, h4⟩ := ex_bifs h2
    cases h4
    obtain ⟨m, hm, hl⟩ := ex_any_ok (ex_every_ok h3 a ha)
    obtain ⟨hl, c4⟩ := ex_and hl
    obtain ⟨hl, c3⟩ := ex_and hl
    obtain ⟨c1, c2⟩ := ex_and hl
    exact ⟨m, hm, ex_eq'_ok c1, ex_lq_ok (fun _ _ => ex_veq_ok) c2, ex_beq c3, fun k c hk => ex_hq_ok c4 hk⟩
  · cases h2
    exact ⟨a, ha, fun i q hq => ⟨q, hq, Nat.le_refl _, Nat.le_refl _⟩, rfl, rfl, fun k c hk => hk⟩
theorem ex_alls_ok {f : ex_E × ex_S → Option (List (ex_E × ex_S))} : ∀ {l y : List (ex_E × ex_S)}, ex_alls f l = some y → ∀ a ∈ l, ∃ x, f a = some x ∧ ∀ z ∈ x, z ∈ y
  | [], y, h, a, ha => by cases ha
  | b :: t, y, h, a, ha => by
    have h : (match f b with
      | none => none
      | some x => (match ex_alls f t with
        | none => none
        | some y => some (ex_app x y))) = some y := h
    split at h
    · cases h
    · rename_i x hx
      split at h
      · cases h
      · rename_i y' hy
        injection h with h
        subst h
        rw [ex_app_eq]
        rcases List.mem_cons.mp ha with rfl | ha
        · exact ⟨x, hx, fun z hz => List.mem_append_left _ hz⟩
        · obtain ⟨x', h1, h2⟩ := ex_alls_ok hy a ha
          exact ⟨x', h1, fun z hz => List.mem_append_right _ (h2 z hz)⟩
theorem ex_all_ok {f : ex_E × ex_S → Option (List (ex_E × ex_S))} {l y : List (ex_E × ex_S)} (h : ex_all f l = some y) : ∀ a ∈ l, ∃ x, f a = some x ∧ ∀ z ∈ x, z ∈ y := by
  unfold ex_all at h
  split at h
  · rename_i b
    intro a ha
    cases List.mem_singleton.mp ha
    exact ⟨y, h, fun z hz => hz⟩
  · exact ex_alls_ok h
theorem ex_rets_ok {z mc ms : Nat} : ∀ {l : List (ex_E × ex_S)} {y : List ex_A}, ex_rets z mc ms l = some y → ∀ x ∈ l, ∃ a ∈ y, ex_ret z mc ms x = some a
  | [], y, h, a, ha => by cases ha
  | b :: t, y, h, a, ha => by
    have h : (match ex_ret z mc ms b with
      | none => none
      | some x => (match ex_rets z mc ms t with
        | none => none
        | some y => some (x :: y))) = some y := h
    split at h
    · cases h
    · rename_i x hx
      split at h
      · cases h
      · rename_i y' hy
        injection h with h
        subst h
        rcases List.mem_cons.mp ha with rfl | ha
        · exact ⟨x, List.mem_cons_self, hx⟩
        · obtain ⟨x', h1, h2⟩ := ex_rets_ok hy a ha
          exact ⟨x', List.mem_cons_of_mem _ h1, h2⟩
section EXJ
variable {ρ : Nat → Int32} {b : Nat} {ws : va_W}
theorem ex_sr_app : ∀ {s1 : List ex_V} {x1 : List Value}, ex_sr ρ b ws s1 x1 → ∀ {s2 : List ex_V} {x2 : List Value}, ex_sr ρ b ws s2 x2 → ex_sr ρ b ws (s1 ++ s2) (x1 ++ x2)
  | [], [], _, _, _, h => h
  | [], _ :: _, h, _, _, _ => h.elim
  | _ :: _, [], h, _, _, _ => h.elim
  | _ :: _, _ :: _, h, _, _, k => ⟨h.1, ex_sr_app h.2 k⟩
/-- the values that a call takes -/
theorem ex_take_ok : ∀ {k : Nat} {acc st as rest : List ex_V}, ex_take k acc st = some (as, rest) → ∀ {xa xs : List Value}, ex_sr ρ b ws acc xa → (∀ v ∈ acc, ex_cat v = 1) → ex_sr ρ b ws st xs → ∃ va xr, xs.take k = (xs.take k) ∧ xa.reverse.reverse = xa ∧ ex_sr ρ b ws as va ∧ ex_sr ρ b ws rest xr ∧ (∀ v ∈ as, ex_cat v = 1) ∧ va.length = k + xa.length ∧ xa.reverse ++ xs = va.reverse ++ xr
  | 0, acc, st, as, rest, h, xa, xs, h1, h2, h3 => by
    have h : some (acc, st) = some (as, rest) := h
    cases h
    exact ⟨xa, xs, rfl, List.reverse_reverse _, h1, h3, h2, by omega, rfl⟩
  | k + 1, acc, st, as, rest, h, xa, xs, h1, h2, h3 => by
    cases st with
    | nil => cases (show none = some (as, rest) from h)
    | cons v t =>
      obtain ⟨g1, g2⟩ := ex_bifs (show (bif Nat.beq (ex_cat v) 1 then ex_take k (v :: acc) t else none) = some (as, rest) from h)
      obtain ⟨x, xr, rfl, hv, hr⟩ := ex_sr_cons h3
      obtain ⟨va, xr', -, -, c1, c2, c3, c4, c5⟩ := ex_take_ok g2 (xa := x :: xa) (xs := xr) ⟨hv, h1⟩ (fun w hw => by
        rcases List.mem_cons.mp hw with rfl | hw
        · exact ex_beq g1
        · exact h2 w hw) hr
      refine ⟨va, xr', rfl, List.reverse_reverse _, c1, c2, c3, by rw [List.length_cons] at c4; omega, ?_⟩
      rw [← c5, List.reverse_cons, List.append_assoc]
      rfl
theorem ex_args_ok : ∀ {as : List ex_V} {va : List Value}, ex_sr ρ b ws as va → (∀ v ∈ as, ex_cat v = 1) → ∀ i : Nat, ex_lr ρ b ws (ex_args as i) (lv_args i va) ∧ (lg_sl va).length = va.length
  | [], [], _, _, _ => ⟨trivial, rfl⟩
  | [], _ :: _, h, _, _ => h.elim
  | _ :: _, [], h, _, _ => h.elim
  | v :: t, x :: r, h, hc, i => by
    have hx : x.category = 1 := (ex_cat_ok h.1).trans (hc v List.mem_cons_self)
    obtain ⟨i1, i2⟩ := ex_args_ok h.2 (fun w hw => hc w (List.mem_cons_of_mem _ hw)) (i + 1)
    refine ⟨?_, ?_⟩
    · show ex_lr ρ b ws ((i, v) :: ex_args t (i + 1)) ((i, x) :: lv_args (if x.category = 2 then i + 2 else i + 1) r)
      rw [if_neg (by omega)]
      exact ⟨⟨rfl, h.1⟩, i1⟩
    · show (lg_sl (x :: r)).length = r.length + 1
      unfold lg_sl at i2 ⊢
      rw [List.flatMap_cons, if_neg (by omega), List.length_append, i2]
      show 1 + r.length = _
      omega
end EXJ
