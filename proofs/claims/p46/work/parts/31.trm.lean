/-! what terms, ranges and side conditions say -/
theorem ty_fc_eq {α : Type} (x : Int) (f : Int → α) : ty_fc x f = f x := by
  cases x with
  | ofNat n => cases n <;> rfl
  | negSucc n => cases n <;> rfl
theorem ty_nn_t {x : Int} (h : ty_nn x = true) : 0 ≤ x := by
  cases x with
  | ofNat n => exact Int.natCast_nonneg n
  | negSucc n => cases h
theorem ty_nn_f {x : Int} (h : ty_nn x = false) : x < 0 := by
  cases x with
  | ofNat n => cases h
  | negSucc n => exact Int.negSucc_lt_zero n
theorem ty_nn_of {x : Int} (h : 0 ≤ x) : ty_nn x = true := by
  cases e : ty_nn x with
  | true => rfl
  | false => have := ty_nn_f e; omega
theorem ty_le_t {x y : Int} (h : ty_le x y = true) : x ≤ y := by have := ty_nn_t h; omega
theorem ty_le_f {x y : Int} (h : ty_le x y = false) : y < x := by have := ty_nn_f h; omega
theorem ty_le_of {x y : Int} (h : x ≤ y) : ty_le x y = true := ty_nn_of (by omega)
theorem ty_0_t {x : Int} (h : ty_0 x = true) : x = 0 := by
  cases x with
  | ofNat n => have := ex_beq h; subst this; rfl
  | negSucc n => cases h
def ty_el (ρ : Nat → Int) : List (Nat × Int) → Int
  | [] => 0
  | q :: l => q.2 * ρ q.1 + ty_el ρ l
def ty_ev (ρ : Nat → Int) (t : ty_t) : Int := t.1 + ty_el ρ t.2
def ty_sc (n : Nat) (t : ty_t) : Prop := ∀ q ∈ t.2, q.1 < n
theorem ty_ins_ev (ρ : Nat → Int) (i : Nat) (a : Int) (l : List (Nat × Int)) : ty_el ρ (ty_ins i a l) = a * ρ i + ty_el ρ l := by
  induction l with
  | nil => rfl
  | cons q t ih =>
    show ty_el ρ (bif Nat.beq q.1 i then ty_fc (q.2 + a) (fun b => bif ty_0 b then t else (i, b) :: t) else q :: ty_ins i a t) = a * ρ i + (q.2 * ρ q.1 + ty_el ρ t)
    cases hb : Nat.beq q.1 i with
    | false =>
      show q.2 * ρ q.1 + ty_el ρ (ty_ins i a t) = _
      rw [ih]; omega
    | true =>
      have e := ex_beq hb
      rw [ty_fc_eq]
      show ty_el ρ (bif ty_0 (q.2 + a) then t else (i, q.2 + a) :: t) = _
      rw [e]
      cases h0 : ty_0 (q.2 + a) with
      | true =>
        have := ty_0_t h0
        show ty_el ρ t = _
        have h2 : q.2 * ρ i + a * ρ i = 0 := by rw [← Int.add_mul, this, Int.zero_mul]
        omega
      | false =>
        show (q.2 + a) * ρ i + ty_el ρ t = _
        rw [Int.add_mul]; omega
theorem ty_adl_ev (ρ : Nat → Int) (k : Int) (l r : List (Nat × Int)) : ty_el ρ (ty_adl k l r) = ty_el ρ l + k * ty_el ρ r := by
  induction r with
  | nil =>
    show ty_el ρ l = ty_el ρ l + k * 0
    rw [Int.mul_zero, Int.add_zero]
  | cons q t ih =>
    show ty_el ρ (ty_ins q.1 (k * q.2) (ty_adl k l t)) = ty_el ρ l + k * (q.2 * ρ q.1 + ty_el ρ t)
    rw [ty_ins_ev, ih, Int.mul_add, Int.mul_assoc]; omega
theorem ty_add_ev (ρ : Nat → Int) (t u : ty_t) (k : Int) : ty_ev ρ (ty_add t u k) = ty_ev ρ t + k * ty_ev ρ u := by
  unfold ty_add
  rw [ty_fc_eq]
  show t.1 + k * u.1 + ty_el ρ (ty_adl k t.2 u.2) = t.1 + ty_el ρ t.2 + k * (u.1 + ty_el ρ u.2)
  rw [ty_adl_ev, Int.mul_add]; omega
theorem ty_sub_ev (ρ : Nat → Int) (t u : ty_t) : ty_ev ρ (ty_add t u (-1)) = ty_ev ρ t - ty_ev ρ u := by rw [ty_add_ev]; omega
theorem ty_pl_ev (ρ : Nat → Int) (t : ty_t) (c : Int) : ty_ev ρ (ty_pl t c) = ty_ev ρ t + c := by
  unfold ty_pl
  rw [ty_fc_eq]
  show t.1 + c + ty_el ρ t.2 = t.1 + ty_el ρ t.2 + c
  omega
theorem ty_k_ev (ρ : Nat → Int) (c : Int) : ty_ev ρ (ty_k c) = c := Int.add_zero c
theorem ty_s_ev (ρ : Nat → Int) (i : Nat) : ty_ev ρ (ty_s i) = ρ i := by
  show 0 + (1 * ρ i + 0) = ρ i
  omega
theorem ty_ins_sc {n i : Nat} {a : Int} {l : List (Nat × Int)} (hi : i < n) (h : ∀ q ∈ l, q.1 < n) : ∀ q ∈ ty_ins i a l, q.1 < n := by
  induction l with
  | nil =>
    intro q hq
    have hq : q ∈ [(i, a)] := hq
    rw [List.mem_singleton] at hq
    subst hq
    exact hi
  | cons p t ih =>
    intro q hq
    have ht : ∀ q ∈ t, q.1 < n := fun q hq => h q (List.mem_cons_of_mem _ hq)
    have hq : q ∈ (bif Nat.beq p.1 i then ty_fc (p.2 + a) (fun b => bif ty_0 b then t else (i, b) :: t) else p :: ty_ins i a t) := hq
    rw [ty_fc_eq] at hq
    cases hb : Nat.beq p.1 i with
    | false =>
      rw [hb] at hq
      have hq : q ∈ p :: ty_ins i a t := hq
      rcases List.mem_cons.mp hq with rfl | hq
      · exact h _ List.mem_cons_self
      · exact ih ht q hq
    | true =>
      rw [hb] at hq
      have hq : q ∈ (bif ty_0 (p.2 + a) then t else (i, p.2 + a) :: t) := hq
      cases h0 : ty_0 (p.2 + a) with
      | true => rw [h0] at hq; exact ht q hq
      | false =>
        rw [h0] at hq
        have hq : q ∈ (i, p.2 + a) :: t := hq
        rcases List.mem_cons.mp hq with rfl | hq
        · exact hi
        · exact ht q hq
theorem ty_adl_sc {n : Nat} {k : Int} {l r : List (Nat × Int)} (hl : ∀ q ∈ l, q.1 < n) (hr : ∀ q ∈ r, q.1 < n) : ∀ q ∈ ty_adl k l r, q.1 < n := by
  induction r with
  | nil => exact hl
  | cons p t ih => exact ty_ins_sc (hr p List.mem_cons_self) (ih (fun q hq => hr q (List.mem_cons_of_mem _ hq)))
theorem ty_add_sc {n : Nat} {t u : ty_t} {k : Int} (ht : ty_sc n t) (hu : ty_sc n u) : ty_sc n (ty_add t u k) := by
  unfold ty_add
  rw [ty_fc_eq]
  exact ty_adl_sc ht hu
theorem ty_pl_sc {n : Nat} {t : ty_t} {c : Int} (ht : ty_sc n t) : ty_sc n (ty_pl t c) := by
  unfold ty_pl
  rw [ty_fc_eq]
  exact ht
theorem ty_k_sc {n : Nat} {c : Int} : ty_sc n (ty_k c) := fun q hq => by cases hq
theorem ty_s_sc {n i : Nat} (h : i < n) : ty_sc n (ty_s i) := fun q hq => by
  have hq : q ∈ [(i, (1 : Int))] := hq
  rw [List.mem_singleton] at hq
  subst hq
  exact h
theorem ty_sc.mono {n n' : Nat} {t : ty_t} (h : ty_sc n t) (hn : n ≤ n') : ty_sc n' t := fun q hq => Nat.lt_of_lt_of_le (h q hq) hn
def ty_ag (n : Nat) (ρ ρ' : Nat → Int) : Prop := ∀ i, i < n → ρ i = ρ' i
theorem ty_ev_ag {n : Nat} {ρ ρ' : Nat → Int} (h : ty_ag n ρ ρ') {t : ty_t} (ht : ty_sc n t) : ty_ev ρ' t = ty_ev ρ t := by
  have key : ∀ l : List (Nat × Int), (∀ q ∈ l, q.1 < n) → ty_el ρ' l = ty_el ρ l := by
    intro l
    induction l with
    | nil => intro _; rfl
    | cons q l ih =>
      intro hl
      show q.2 * ρ' q.1 + ty_el ρ' l = q.2 * ρ q.1 + ty_el ρ l
      rw [ih (fun q hq => hl q (List.mem_cons_of_mem _ hq)), h q.1 (hl q List.mem_cons_self)]
  show t.1 + ty_el ρ' t.2 = t.1 + ty_el ρ t.2
  rw [key t.2 ht]
/-- the ranges hold -/
def ty_bd (ρ : Nat → Int) (v : List (Nat × Int × Int)) : Prop := ∀ i, (ty_iv v i).1 ≤ ρ i ∧ ρ i ≤ (ty_iv v i).2
def ty_er (ρ : Nat → Int) (e : ty_E) : Prop := ty_bd ρ e.2.1 ∧ ∀ c ∈ e.2.2, ty_sc e.1 c ∧ ty_ev ρ c ≤ 0
theorem ty_iv_cons (q : Nat × Int × Int) (v : List (Nat × Int × Int)) (i : Nat) : ty_iv (q :: v) i = bif Nat.beq q.1 i then q.2 else ty_iv v i := rfl
theorem ty_bd_cons {ρ : Nat → Int} {v : List (Nat × Int × Int)} (h : ty_bd ρ v) {i : Nat} {l u : Int} (h1 : l ≤ ρ i) (h2 : ρ i ≤ u) : ty_bd ρ ((i, l, u) :: v) := by
  intro j
  rw [ty_iv_cons]
  cases hb : Nat.beq i j with
  | false => exact h j
  | true =>
    have := ex_beq hb
    subst this
    exact ⟨h1, h2⟩
theorem ty_hi_ok {ρ : Nat → Int} {e : ty_E} (h : ty_bd ρ e.2.1) (t : ty_t) : ty_ev ρ t ≤ ty_hi e t := by
  have key : ∀ (l : List (Nat × Int)) (c : Int), c + ty_el ρ l ≤ List.rec (motive := fun _ => Int) c (fun q _ ih => ih + (bif ty_nn q.2 then q.2 * (ty_iv e.2.1 q.1).2 else q.2 * (ty_iv e.2.1 q.1).1)) l := by
    intro l c
    induction l with
    | nil => show c + 0 ≤ c; omega
    | cons q l ih =>
      have b := h q.1
      have m : q.2 * ρ q.1 ≤ (bif ty_nn q.2 then q.2 * (ty_iv e.2.1 q.1).2 else q.2 * (ty_iv e.2.1 q.1).1) := by
        cases hn : ty_nn q.2 with
        | true => exact Int.mul_le_mul_of_nonneg_left b.2 (ty_nn_t hn)
        | false => exact Int.mul_le_mul_of_nonpos_left (by have := ty_nn_f hn; omega) b.1
      show c + (q.2 * ρ q.1 + ty_el ρ l) ≤ _ + (bif ty_nn q.2 then q.2 * (ty_iv e.2.1 q.1).2 else q.2 * (ty_iv e.2.1 q.1).1)
      omega
  exact key t.2 t.1
theorem ty_lo_ok {ρ : Nat → Int} {e : ty_E} (h : ty_bd ρ e.2.1) (t : ty_t) : ty_lo e t ≤ ty_ev ρ t := by
  have key : ∀ (l : List (Nat × Int)) (c : Int), List.rec (motive := fun _ => Int) c (fun q _ ih => ih + (bif ty_nn q.2 then q.2 * (ty_iv e.2.1 q.1).1 else q.2 * (ty_iv e.2.1 q.1).2)) l ≤ c + ty_el ρ l := by
    intro l c
    induction l with
    | nil => show c ≤ c + 0; omega
    | cons q l ih =>
      have b := h q.1
      have m : (bif ty_nn q.2 then q.2 * (ty_iv e.2.1 q.1).1 else q.2 * (ty_iv e.2.1 q.1).2) ≤ q.2 * ρ q.1 := by
        cases hn : ty_nn q.2 with
        | true => exact Int.mul_le_mul_of_nonneg_left b.1 (ty_nn_t hn)
        | false => exact Int.mul_le_mul_of_nonpos_left (by have := ty_nn_f hn; omega) b.2
      show _ + (bif ty_nn q.2 then q.2 * (ty_iv e.2.1 q.1).1 else q.2 * (ty_iv e.2.1 q.1).2) ≤ c + (q.2 * ρ q.1 + ty_el ρ l)
      omega
  exact key t.2 t.1
theorem ty_any_t {α : Type} {f : α → Bool} {l : List α} (h : ex_any f l = true) : ∃ a ∈ l, f a = true := by
  induction l with
  | nil => cases h
  | cons a t ih =>
    rcases Bool.or_eq_true _ _ |>.mp (show (f a || ex_any f t) = true from h) with h1 | h1
    · exact ⟨a, List.mem_cons_self, h1⟩
    · obtain ⟨b, hb, h2⟩ := ih h1
      exact ⟨b, List.mem_cons_of_mem _ hb, h2⟩
theorem ty_ent_ok {ρ : Nat → Int} {e : ty_E} (h : ty_er ρ e) {t : ty_t} (hc : ty_ent e t = true) : ty_ev ρ t ≤ 0 := by
  unfold ty_ent at hc
  rcases Bool.or_eq_true _ _ |>.mp hc with hc | hc
  · have := ty_nn_t hc
    have := ty_hi_ok h.1 t
    omega
  · obtain ⟨c, h1, h2⟩ := ty_any_t hc
    obtain ⟨-, h2⟩ := ex_and h2
    have hc1 := (h.2 c h1).2
    unfold ty_e1 at h2
    rcases Bool.or_eq_true _ _ |>.mp h2 with h2 | h2
    · have h2 := ty_nn_t h2
      have h3 := ty_hi_ok h.1 (ty_add t c (-1))
      rw [ty_sub_ev] at h3
      omega
    · obtain ⟨c', h3, h4⟩ := ty_any_t h2
      obtain ⟨-, h4⟩ := ex_and h4
      have h4 := ty_nn_t h4
      have h5 := ty_hi_ok h.1 (ty_add (ty_add t c (-1)) c' (-1))
      rw [ty_sub_ev, ty_sub_ev] at h5
      have := (h.2 c' h3).2
      omega
theorem ty_in_ok {ρ : Nat → Int} {e : ty_E} (h : ty_er ρ e) {t : ty_t} {l u : Int} (hc : ty_in e t l u = true) : l ≤ ty_ev ρ t ∧ ty_ev ρ t ≤ u := by
  obtain ⟨h1, h2⟩ := ex_and hc
  have h1 := ty_ent_ok h h1
  have h2 := ty_ent_ok h h2
  rw [ty_sub_ev, ty_k_ev] at h1
  rw [ty_pl_ev] at h2
  omega
/-- a term's one part is at most what the whole is above its least -/
theorem ty_part {ρ : Nat → Int} {e : ty_E} (h : ty_bd ρ e.2.1) : ∀ (l : List (Nat × Int)) (c : Int) (q : Nat × Int), q ∈ l → q.2 * ρ q.1 - (bif ty_nn q.2 then q.2 * (ty_iv e.2.1 q.1).1 else q.2 * (ty_iv e.2.1 q.1).2) ≤ c + ty_el ρ l - List.rec (motive := fun _ => Int) c (fun q _ ih => ih + (bif ty_nn q.2 then q.2 * (ty_iv e.2.1 q.1).1 else q.2 * (ty_iv e.2.1 q.1).2)) l
  | [], _, _, hq => by cases hq
  | p :: l, c, q, hq => by
    have low : ∀ p : Nat × Int, (bif ty_nn p.2 then p.2 * (ty_iv e.2.1 p.1).1 else p.2 * (ty_iv e.2.1 p.1).2) ≤ p.2 * ρ p.1 := fun p => by
      have b := h p.1
      cases hn : ty_nn p.2 with
      | true => exact Int.mul_le_mul_of_nonneg_left b.1 (ty_nn_t hn)
      | false => exact Int.mul_le_mul_of_nonpos_left (by have := ty_nn_f hn; omega) b.2
    have lp := low p
    show _ ≤ c + (p.2 * ρ p.1 + ty_el ρ l) - (List.rec (motive := fun _ => Int) c (fun q _ ih => ih + (bif ty_nn q.2 then q.2 * (ty_iv e.2.1 q.1).1 else q.2 * (ty_iv e.2.1 q.1).2)) l + (bif ty_nn p.2 then p.2 * (ty_iv e.2.1 p.1).1 else p.2 * (ty_iv e.2.1 p.1).2))
    rcases List.mem_cons.mp hq with rfl | hq
    · have := ty_lo_ok (e := e) h (c, l)
      have : List.rec (motive := fun _ => Int) c (fun q _ ih => ih + (bif ty_nn q.2 then q.2 * (ty_iv e.2.1 q.1).1 else q.2 * (ty_iv e.2.1 q.1).2)) l ≤ c + ty_el ρ l := this
      omega
    · have := ty_part h l c q hq
      omega
theorem ty_nar_ok {ρ : Nat → Int} {w : List (Nat × Int × Int)} (hw : ty_bd ρ w) {L : Int} : ∀ (l : List (Nat × Int)), (∀ q ∈ l, (1 ≤ q.2 → q.2 * (ρ q.1 - (ty_iv w q.1).1) ≤ -L) ∧ (q.2 ≤ -1 → (-q.2) * ((ty_iv w q.1).2 - ρ q.1) ≤ -L)) → ∃ v, ty_nar w L l = some v ∧ ty_bd ρ v
  | [], _ => ⟨w, rfl, hw⟩
  | q :: l, hl => by
    obtain ⟨v, h1, h2⟩ := ty_nar_ok hw l (fun q hq => hl q (List.mem_cons_of_mem _ hq))
    obtain ⟨p1, p2⟩ := hl q List.mem_cons_self
    have b := h2 q.1
    have e0 : ty_nar w L (q :: l) = (match ty_nar w L l with
      | none => none
      | some v => bif ty_le 1 q.2 then ty_fc ((ty_iv w q.1).1 + (-L) / q.2) (fun h => bif ty_le h ((ty_iv v q.1).2) then (bif ty_le (ty_iv v q.1).1 h then some ((q.1, (ty_iv v q.1).1, h) :: v) else none) else some v)
        else bif ty_le q.2 (-1) then ty_fc ((ty_iv w q.1).2 - (-L) / (-q.2)) (fun l' => bif ty_le ((ty_iv v q.1).1) l' then (bif ty_le l' (ty_iv v q.1).2 then some ((q.1, l', (ty_iv v q.1).2) :: v) else none) else some v)
        else some v) := rfl
    rw [e0, h1]
    simp only [ty_fc_eq]
    cases c1 : ty_le 1 q.2 with
    | true =>
      have a1 := ty_le_t c1
      have g := p1 a1
      have g2 : ρ q.1 - (ty_iv w q.1).1 ≤ -L / q.2 := Int.le_ediv_of_mul_le (by omega) (by rw [Int.mul_comm]; exact g)
      show ∃ v', (bif ty_le ((ty_iv w q.1).1 + -L / q.2) (ty_iv v q.1).2 then (bif ty_le (ty_iv v q.1).1 ((ty_iv w q.1).1 + -L / q.2) then some ((q.1, (ty_iv v q.1).1, (ty_iv w q.1).1 + -L / q.2) :: v) else none) else some v) = some v' ∧ _
      cases c2 : ty_le ((ty_iv w q.1).1 + -L / q.2) (ty_iv v q.1).2 with
      | false => exact ⟨v, rfl, h2⟩
      | true =>
        rw [ty_le_of (show (ty_iv v q.1).1 ≤ (ty_iv w q.1).1 + -L / q.2 by omega)]
        exact ⟨_, rfl, ty_bd_cons h2 b.1 (by omega)⟩
    | false =>
      show ∃ v', (bif ty_le q.2 (-1) then (bif ty_le ((ty_iv v q.1).1) ((ty_iv w q.1).2 - -L / -q.2) then (bif ty_le ((ty_iv w q.1).2 - -L / -q.2) (ty_iv v q.1).2 then some ((q.1, (ty_iv w q.1).2 - -L / -q.2, (ty_iv v q.1).2) :: v) else none) else some v) else some v) = some v' ∧ _
      cases c2 : ty_le q.2 (-1) with
      | false => exact ⟨v, rfl, h2⟩
      | true =>
        have a1 := ty_le_t c2
        have g := p2 a1
        have g2 : (ty_iv w q.1).2 - ρ q.1 ≤ -L / -q.2 := Int.le_ediv_of_mul_le (by omega) (by rw [Int.mul_comm]; exact g)
        show ∃ v', (bif ty_le ((ty_iv v q.1).1) ((ty_iv w q.1).2 - -L / -q.2) then (bif ty_le ((ty_iv w q.1).2 - -L / -q.2) (ty_iv v q.1).2 then some ((q.1, (ty_iv w q.1).2 - -L / -q.2, (ty_iv v q.1).2) :: v) else none) else some v) = some v' ∧ _
        cases c3 : ty_le ((ty_iv v q.1).1) ((ty_iv w q.1).2 - -L / -q.2) with
        | false => exact ⟨v, rfl, h2⟩
        | true =>
          rw [ty_le_of (show (ty_iv w q.1).2 - -L / -q.2 ≤ (ty_iv v q.1).2 by omega)]
          exact ⟨_, rfl, ty_bd_cons h2 (by omega) b.2⟩
theorem ty_nar_of {ρ : Nat → Int} {e : ty_E} (h : ty_bd ρ e.2.1) {d : ty_t} (hd : ty_ev ρ d ≤ 0) : ∃ v, ty_nar e.2.1 (ty_lo e d) d.2 = some v ∧ ty_bd ρ v := by
  refine ty_nar_ok h d.2 (fun q hq => ?_)
  have p := ty_part h d.2 d.1 q hq
  have p : q.2 * ρ q.1 - (bif ty_nn q.2 then q.2 * (ty_iv e.2.1 q.1).1 else q.2 * (ty_iv e.2.1 q.1).2) ≤ ty_ev ρ d - ty_lo e d := p
  constructor
  · intro h1
    rw [ty_nn_of (show (0 : Int) ≤ q.2 by omega)] at p
    have p : q.2 * ρ q.1 - q.2 * (ty_iv e.2.1 q.1).1 ≤ ty_ev ρ d - ty_lo e d := p
    rw [Int.mul_sub]; omega
  · intro h1
    have hf : ty_nn q.2 = false := by
      cases hn : ty_nn q.2 with
      | false => rfl
      | true => have := ty_nn_t hn; omega
    rw [hf] at p
    have p : q.2 * ρ q.1 - q.2 * (ty_iv e.2.1 q.1).2 ≤ ty_ev ρ d - ty_lo e d := p
    rw [Int.neg_mul, Int.mul_sub]; omega
theorem ty_rf_ok {ρ : Nat → Int} {e : ty_E} (h : ty_er ρ e) {d : ty_t} (hs : ty_sc e.1 d) (hd : ty_ev ρ d ≤ 0) : ∃ e', ty_rf e d = some e' ∧ ty_er ρ e' ∧ e'.1 = e.1 := by
  unfold ty_rf
  rw [ty_fc_eq]
  have l := ty_lo_ok h.1 d
  have c1 : ty_le 1 (ty_lo e d) = false := by
    cases hc : ty_le 1 (ty_lo e d) with
    | false => rfl
    | true => have := ty_le_t hc; omega
  rw [c1]
  show ∃ e', (bif ty_nn (-(ty_hi e d)) then some e else bif ty_ent e (ty_add (ty_k 1) d (-1)) then none else (match ty_nar e.2.1 (ty_lo e d) d.2 with
    | none => none
    | some v => some (e.1, v, bif ty_two d.2 then d :: e.2.2 else e.2.2))) = some e' ∧ _
  cases c2 : ty_nn (-(ty_hi e d)) with
  | true => exact ⟨e, rfl, h, rfl⟩
  | false =>
    have c3 : ty_ent e (ty_add (ty_k 1) d (-1)) = false := by
      cases hc : ty_ent e (ty_add (ty_k 1) d (-1)) with
      | false => rfl
      | true =>
        have := ty_ent_ok h hc
        rw [ty_sub_ev, ty_k_ev] at this
        omega
    rw [c3]
    obtain ⟨v, h1, h2⟩ := ty_nar_of h.1 hd
    show ∃ e', (match ty_nar e.2.1 (ty_lo e d) d.2 with
      | none => none
      | some v => some (e.1, v, bif ty_two d.2 then d :: e.2.2 else e.2.2)) = some e' ∧ _
    rw [h1]
    refine ⟨_, rfl, ⟨h2, fun c hc => ?_⟩, rfl⟩
    have hc : c ∈ (bif ty_two d.2 then d :: e.2.2 else e.2.2) := hc
    cases ht : ty_two d.2 with
    | false => rw [ht] at hc; exact h.2 c hc
    | true =>
      rw [ht] at hc
      rcases List.mem_cons.mp hc with rfl | hc
      · exact ⟨hs, hd⟩
      · exact h.2 c hc
theorem ty_rl_ok {ρ : Nat → Int} {e : ty_E} (h : ty_er ρ e) {d : ty_t} (hs : ty_sc e.1 d) (hd : ty_ev ρ d ≤ 0) : ∃ e' ∈ ty_rl e d, ty_er ρ e' ∧ e'.1 = e.1 := by
  obtain ⟨e', h1, h2⟩ := ty_rf_ok h hs hd
  exact ⟨e', by unfold ty_rl; rw [h1]; exact List.mem_singleton.mpr rfl, h2⟩
theorem ty_rl2_ok {ρ : Nat → Int} {e : ty_E} (h : ty_er ρ e) {d d' : ty_t} (hs : ty_sc e.1 d) (hd : ty_ev ρ d ≤ 0) (hs' : ty_sc e.1 d') (hd' : ty_ev ρ d' ≤ 0) : ∃ e' ∈ ty_rl2 e d d', ty_er ρ e' ∧ e'.1 = e.1 := by
  obtain ⟨e', h1, h2, h3⟩ := ty_rf_ok h hs hd
  obtain ⟨e'', h4, h5, h6⟩ := ty_rl_ok h2 (h3 ▸ hs') hd'
  exact ⟨e'', by unfold ty_rl2; rw [h1]; exact h4, h5, h6.trans h3⟩
def ty_cm (c : ClassFile.Cond) (y z : Int) : Prop := match c with
  | .eq => y = z
  | .ne => ¬ y = z
  | .lt => y < z
  | .ge => ¬ y < z
  | .gt => z < y
  | .le => ¬ z < y
theorem ty_br_ok {ρ : Nat → Int} {e : ty_E} (h : ty_er ρ e) {c : ClassFile.Cond} {a b : ty_t} (ha : ty_sc e.1 a) (hb : ty_sc e.1 b) : (ty_cm c (ty_ev ρ a) (ty_ev ρ b) → ∃ e' ∈ (ty_br c e a b).1, ty_er ρ e' ∧ e'.1 = e.1) ∧ (¬ ty_cm c (ty_ev ρ a) (ty_ev ρ b) → ∃ e' ∈ (ty_br c e a b).2, ty_er ρ e' ∧ e'.1 = e.1) := by
  have lt : ∀ {x y : ty_t}, ty_sc e.1 x → ty_sc e.1 y → ty_ev ρ x < ty_ev ρ y → ∃ e' ∈ ty_rl e (ty_pl (ty_add x y (-1)) 1), ty_er ρ e' ∧ e'.1 = e.1 := fun hx hy hl => ty_rl_ok h (ty_pl_sc (ty_add_sc hx hy)) (by rw [ty_pl_ev, ty_sub_ev]; omega)
  have le : ∀ {x y : ty_t}, ty_sc e.1 x → ty_sc e.1 y → ty_ev ρ x ≤ ty_ev ρ y → ∃ e' ∈ ty_rl e (ty_add x y (-1)), ty_er ρ e' ∧ e'.1 = e.1 := fun hx hy hl => ty_rl_ok h (ty_add_sc hx hy) (by rw [ty_sub_ev]; omega)
  have eq : ty_ev ρ a = ty_ev ρ b → ∃ e' ∈ ty_rl2 e (ty_add a b (-1)) (ty_add b a (-1)), ty_er ρ e' ∧ e'.1 = e.1 := fun hl => ty_rl2_ok h (ty_add_sc ha hb) (by rw [ty_sub_ev]; omega) (ty_add_sc hb ha) (by rw [ty_sub_ev]; omega)
  have ne : ¬ ty_ev ρ a = ty_ev ρ b → ∃ e' ∈ ex_app (ty_rl e (ty_pl (ty_add a b (-1)) 1)) (ty_rl e (ty_pl (ty_add b a (-1)) 1)), ty_er ρ e' ∧ e'.1 = e.1 := fun hl => by
    rw [ex_app_eq]
    rcases Int.lt_or_gt_of_ne hl with q | q
    · obtain ⟨e', i1, i2⟩ := lt ha hb q
      exact ⟨e', List.mem_append_left _ i1, i2⟩
    · obtain ⟨e', i1, i2⟩ := lt hb ha q
      exact ⟨e', List.mem_append_right _ i1, i2⟩
  cases c with
  | eq => exact ⟨eq, ne⟩
  | ne => exact ⟨ne, fun q => eq (Classical.not_not.mp q)⟩
  | lt => exact ⟨lt ha hb, fun q => le hb ha (by have : ¬ ty_ev ρ a < ty_ev ρ b := q; omega)⟩
  | ge => exact ⟨fun q => le hb ha (by have : ¬ ty_ev ρ a < ty_ev ρ b := q; omega), fun q => lt ha hb (Classical.not_not.mp q)⟩
  | gt => exact ⟨lt hb ha, fun q => le ha hb (by have : ¬ ty_ev ρ b < ty_ev ρ a := q; omega)⟩
  | le => exact ⟨fun q => le ha hb (by have : ¬ ty_ev ρ b < ty_ev ρ a := q; omega), fun q => lt hb ha (Classical.not_not.mp q)⟩
theorem ty_prop_ok {ρ : Nat → Int} : ∀ (cs : List ty_t) (e : ty_E), ty_er ρ e → (∀ c ∈ cs, ty_ev ρ c ≤ 0) → ∃ e', ty_prop cs e = some e' ∧ ty_er ρ e' ∧ e'.1 = e.1
  | [], e, h, _ => ⟨e, rfl, h, rfl⟩
  | c :: cs, e, h, hc => by
    have h0 := hc c List.mem_cons_self
    have l := ty_lo_ok h.1 c
    have c1 : ty_le 1 (ty_lo e c) = false := by
      cases hc : ty_le 1 (ty_lo e c) with
      | false => rfl
      | true => have := ty_le_t hc; omega
    show ∃ e', (bif ty_le 1 (ty_lo e c) then none else bif ty_nn (-(ty_hi e c)) then ty_prop cs e else (match ty_nar e.2.1 (ty_lo e c) c.2 with
      | none => none
      | some v => ty_prop cs (e.1, v, e.2.2))) = some e' ∧ _
    rw [c1]
    have ih := ty_prop_ok (ρ := ρ) cs
    cases c2 : ty_nn (-(ty_hi e c)) with
    | true => exact ih e h (fun c hc' => hc c (List.mem_cons_of_mem _ hc'))
    | false =>
      obtain ⟨v, h1, h2⟩ := ty_nar_of h.1 h0
      show ∃ e', (match ty_nar e.2.1 (ty_lo e c) c.2 with
        | none => none
        | some v => ty_prop cs (e.1, v, e.2.2)) = some e' ∧ _
      rw [h1]
      exact ih (e.1, v, e.2.2) ⟨h2, h.2⟩ (fun c hc' => hc c (List.mem_cons_of_mem _ hc'))
def ty_up (ρ : Nat → Int) (n : Nat) (v : Int) : Nat → Int := fun i => if i = n then v else ρ i
theorem ty_up_ag (ρ : Nat → Int) (n : Nat) (v : Int) : ty_ag n ρ (ty_up ρ n v) := fun i hi => by
  show ρ i = if i = n then v else ρ i
  rw [if_neg (by omega)]
theorem ty_up_at (ρ : Nat → Int) (n : Nat) (v : Int) : ty_up ρ n v n = v := if_pos rfl
theorem ty_fr_ok {ρ : Nat → Int} {e : ty_E} (h : ty_er ρ e) {l u v : Int} (h1 : l ≤ v) (h2 : v ≤ u) {cs : List ty_t} (hc : ∀ c ∈ cs, ty_sc (e.1 + 1) c ∧ ty_ev (ty_up ρ e.1 v) c ≤ 0) : ty_er (ty_up ρ e.1 v) (ty_fr e l u cs) ∧ (ty_fr e l u cs).1 = e.1 + 1 := by
  unfold ty_fr
  rw [ty_fc_eq, ty_fc_eq]
  refine ⟨⟨?_, fun c hc' => ?_⟩, rfl⟩
  · intro i
    show (ty_iv ((e.1, l, u) :: e.2.1) i).1 ≤ _ ∧ _ ≤ (ty_iv ((e.1, l, u) :: e.2.1) i).2
    rw [ty_iv_cons]
    cases hb : Nat.beq e.1 i with
    | true =>
      have := ex_beq hb
      subst this
      rw [ty_up_at]
      exact ⟨h1, h2⟩
    | false =>
      have := ex_bne hb
      show (ty_iv e.2.1 i).1 ≤ (if i = e.1 then v else ρ i) ∧ (if i = e.1 then v else ρ i) ≤ (ty_iv e.2.1 i).2
      rw [if_neg (fun q => this q.symm)]
      exact h.1 i
  · have hc' : c ∈ ex_app cs e.2.2 := hc'
    rw [ex_app_eq] at hc'
    rcases List.mem_append.mp hc' with hc' | hc'
    · exact hc c hc'
    · obtain ⟨s1, s2⟩ := h.2 c hc'
      refine ⟨s1.mono (Nat.le_succ _), ?_⟩
      rw [ty_ev_ag (ty_up_ag ρ e.1 v) s1]
      exact s2
