/-! the words, what is known of a frame, and what the executor says of one -/
def ex_tb : List Cond := lw_tbl.filter goodWord
noncomputable def ex_wd (i : Nat) (w : Cond) : Bool := decide (ex_nth lw_tbl i = some w) && goodWord w
theorem ex_wd_ok {i : Nat} {w : Cond} (h : ex_wd i w = true) : w ∈ ex_tb := by
  obtain ⟨h1, h2⟩ := ex_and h
  have h1 := of_decide_eq_true h1
  rw [ex_nth_get] at h1
  exact List.mem_filter.mpr ⟨List.mem_of_getElem? h1, h2⟩
theorem ex_tb_of {ws : List Cond} (h : GoodIn lw_tbl ws) (hw : ws.all goodWord = true) : ∀ w ∈ ws, w ∈ ex_tb := fun w hw' => List.mem_filter.mpr ⟨(h w hw').1, List.all_eq_true.mp hw w hw'⟩
abbrev ex_nest : List Cond := [Cond.methodLinkNest "HatchLights" 9 yX6_init "HatchLights", Cond.methodLinkNest "HatchLights" 18 yX3_init "HatchLights", Cond.methodLinkNest "HatchLights$Told" 26 yX2_init "HatchLights", Cond.methodLinkNest "HatchLights$Reader" 27 yX7_init "HatchLights", Cond.methodLinkNest "HatchLights$Scene" 48 yX1_init "HatchLights"]
def ex_X (p : Program) (R : Room) (s : State) (m : MethodId) (args : Array Value) (meth : Method) (c : Code) (ρ : Nat → Int32) (b L : Nat) (A : Nat → Prop) (own nm : String) (cc : ByteArray) (mL d : Nat) (cap : Nat × Nat) (isl : Bool) : Prop :=
  p.tables.exec = Jvm.exec ∧ c.code = cc ∧ c.maxLocals = mL ∧ s.vm.findClass own = some m.cls ∧ (∀ w ∈ ex_tb, w.before args s = true) ∧ (∀ q, s.heap.size ≤ q → A q) ∧ (∀ w ∈ ex_nest, va_Nw w s) ∧ va_AO "HatchLights$Scene" s ∧ (isl = true → va_X b L ρ s s.heap ∧ b < s.heap.size ∧ ¬ A b) ∧ meth.name = nm ∧ (cap.1 ≤ R.cells ∧ cap.2 ≤ R.slots) ∧ d + 1 ≤ R.frames ∧ 60 * (d + 1) ≤ R.locals
def ex_Rl (s : State) (D : va_G) (ρ : Nat → Int32) (b : Nat) (A : Nat → Prop) (mL : Nat) (w0 : va_W) (t0 : List (ClassId × FieldType)) (en : ex_E) (lv : ex_L) (st : List ex_V) (h : ex_H) (n : Nat) (ls : Array Slot) (xs : List Value) (ws : va_W) (tys : List (ClassId × FieldType)) (H : Heap) (locs : List Loc) : Prop :=
  (∃ lw, lv_has ls mL lw ∧ ex_lr ρ b ws lv lw) ∧ ex_er ρ en ∧ ex_sr ρ b ws st xs ∧ ex_hr ρ b tys ws h n ∧ va_K D vwCl tys s ∧ va_P D vwCl ws H ∧ va_D A ws ∧ va_S A s.heap H locs ∧ ex_xt w0 ws ∧ ∀ t ∈ t0, t ∈ tys
def ex_G (p : Program) (l : Launch) (e : Env) (R : Room) (s : State) (m : MethodId) (args : Array Value) (below : List Frame) (meth : Method) (c : Code) (Q : State → Prop) (D : va_G) (ρ : Nat → Int32) (b : Nat) (A : Nat → Prop) (mL : Nat) (w0 : va_W) (t0 : List (ClassId × FieldType)) (pr : List ex_P) (en : ex_E) (S : ex_S) : Prop :=
  ∀ (pc : Nat) (ls : Array Slot) (xs : List Value) (ws : va_W) (tys : List (ClassId × FieldType)) (H : Heap) (locs : List Loc), (∃ q r, S.1 = q :: r ∧ q.1 = pc) → (∀ q ∈ S.1, q ∈ pr) → ex_Rl s D ρ b A mL w0 t0 en S.2.1 S.2.2.1 S.2.2.2.1 S.2.2.2.2.1 ls xs ws tys H locs →
    W p l e R s m args below meth c H locs S.2.2.2.2.2.1 S.2.2.2.2.2.2 Q (F0 m pc ls xs)
theorem ex_cli {ci : Nat} {r : vw_C} (h : vwCl[ci]? = some r) : (∀ w ∈ u_ws r.1 r.2.1 r.2.2, w ∈ ex_tb) ∧ (∃ ty0 : Nat → FieldType, ∀ k, k < r.2.2 → parseFieldDescriptor (r.2.1 k).2.2.1 = some (ty0 k)) ∧ (∀ a, a < r.2.2 → ∀ b, b < r.2.2 → a ≠ b → (r.2.1 a).2.1 ≠ (r.2.1 b).2.1) := by
  match ci, h with
  | 0, h => cases h; exact ⟨ex_tb_of ex_fwX0 (by decide +kernel), ⟨_, tyX0_ok⟩, nmX0⟩
  | 1, h => cases h; exact ⟨ex_tb_of ex_fwX1 (by decide +kernel), ⟨_, tyX1_ok⟩, nmX1⟩
  | 2, h => cases h; exact ⟨ex_tb_of ex_fwX2 (by decide +kernel), ⟨_, tyX2_ok⟩, nmX2⟩
  | 3, h => cases h; exact ⟨ex_tb_of ex_fwX3 (by decide +kernel), ⟨_, tyX3_ok⟩, nmX3⟩
  | 4, h => cases h; exact ⟨ex_tb_of ex_fwX4 (by decide +kernel), ⟨_, tyX4_ok⟩, nmX4⟩
  | 5, h => cases h; exact ⟨ex_tb_of ex_fwX5 (by decide +kernel), ⟨_, tyX5_ok⟩, nmX5⟩
  | 6, h => cases h; exact ⟨ex_tb_of ex_fwX6 (by decide +kernel), ⟨_, tyX6_ok⟩, nmX6⟩
  | 7, h => cases h; exact ⟨ex_tb_of ex_fwX7 (by decide +kernel), ⟨_, tyX7_ok⟩, nmX7⟩
  | 8, h => cases h; exact ⟨ex_tb_of ex_fwX8 (by decide +kernel), ⟨_, tyX8_ok⟩, nmX8⟩
  | 9, h => cases h; exact ⟨ex_tb_of ex_fwX9 (by decide +kernel), ⟨_, tyX9_ok⟩, nmX9⟩
  | 10, h => cases h; exact ⟨ex_tb_of ex_fwX10 (by decide +kernel), ⟨_, tyX10_ok⟩, nmX10⟩
  | k + 11, h => simp [vwCl] at h
section EXS
variable {p : Program} {l : Launch} {e : Env} {R : Room} {s : State} {m : MethodId} {args : Array Value} {below : List Frame} {meth : Method} {c : Code} {Q : State → Prop} {D : va_G} {ρ : Nat → Int32} {b L : Nat} {A : Nat → Prop} {mL d : Nat} {w0 : va_W} {t0 : List (ClassId × FieldType)} {pr : List ex_P} {own nm : String} {cd : ByteArray} {cap : Nat × Nat} {isl : Bool}
variable {en : ex_E} {lv : ex_L} {st : List ex_V} {h : ex_H} {n k1 k2 : Nat} {ls : Array Slot} {xs : List Value} {ws : va_W} {tys : List (ClassId × FieldType)} {H : Heap} {locs : List Loc} {q : ex_P} {r : List ex_P} {o : List (ex_E × ex_S)}
theorem ex_ft_ok (hf : ex_ft q r en lv st h n k1 k2 = some o) (hG : ∀ x ∈ o, ex_G p l e R s m args below meth c Q D ρ b A mL w0 t0 pr x.1 x.2) (hs : ∀ x ∈ q :: r, x ∈ pr) (hR : ex_Rl s D ρ b A mL w0 t0 en lv st h n ls xs ws tys H locs) : W p l e R s m args below meth c H locs k1 k2 Q (F0 m (q.1 + q.2.2.1) ls xs) := by
  unfold ex_ft at hf
  split at hf
  · cases hf
  · rename_i q' r'
    obtain ⟨h1, h2⟩ := ex_bifs hf
    cases h2
    have h1 := ex_beq h1
    exact hG _ (List.mem_singleton.mpr rfl) _ ls xs ws tys H locs ⟨q', r', rfl, h1⟩ (fun x hx => hs x (List.mem_cons_of_mem _ hx)) hR
theorem ex_jp_sub : ∀ {pr : List ex_P} {t : Nat}, (∀ x ∈ ex_jp pr t, x ∈ pr) ∧ (ex_jp pr t = [] ∨ ∃ q r, ex_jp pr t = q :: r ∧ q.1 = t)
  | [], t => ⟨fun x hx => hx, Or.inl rfl⟩
  | q :: r, t => by
    have ih := @ex_jp_sub r t
    show (∀ x ∈ (bif Nat.beq q.1 t then q :: r else ex_jp r t), x ∈ q :: r) ∧ ((bif Nat.beq q.1 t then q :: r else ex_jp r t) = [] ∨ ∃ q' r', (bif Nat.beq q.1 t then q :: r else ex_jp r t) = q' :: r' ∧ q'.1 = t)
    cases hb : Nat.beq q.1 t
    · exact ⟨fun x hx => List.mem_cons_of_mem _ (ih.1 x hx), ih.2⟩
    · exact ⟨fun x hx => hx, Or.inr ⟨q, r, rfl, ex_beq hb⟩⟩
/-- what follows is well, and has a place to be -/
def ex_N (p : Program) (l : Launch) (e : Env) (R : Room) (s : State) (m : MethodId) (args : Array Value) (below : List Frame) (meth : Method) (c : Code) (Q : State → Prop) (D : va_G) (ρ : Nat → Int32) (b : Nat) (A : Nat → Prop) (mL : Nat) (w0 : va_W) (t0 : List (ClassId × FieldType)) (pr : List ex_P) (o : List (ex_E × ex_S)) : Prop := ∀ x ∈ o, x.2.1 ≠ [] ∧ ex_G p l e R s m args below meth c Q D ρ b A mL w0 t0 pr x.1 x.2
theorem ex_jp_ok {t : Nat} (hG : ex_jp pr t ≠ [] ∧ ex_G p l e R s m args below meth c Q D ρ b A mL w0 t0 pr en (ex_jp pr t, lv, st, h, n, k1, k2)) (hR : ex_Rl s D ρ b A mL w0 t0 en lv st h n ls xs ws tys H locs) : W p l e R s m args below meth c H locs k1 k2 Q (F0 m t ls xs) :=
  hG.2 t ls xs ws tys H locs (ex_jp_sub.2.resolve_left hG.1) ex_jp_sub.1 hR
theorem ex_Rl.sr (hR : ex_Rl s D ρ b A mL w0 t0 en lv st h n ls xs ws tys H locs) : ex_sr ρ b ws st xs := hR.2.2.1
theorem ex_Rl.er (hR : ex_Rl s D ρ b A mL w0 t0 en lv st h n ls xs ws tys H locs) : ex_er ρ en := hR.2.1
theorem ex_Rl.stk (hR : ex_Rl s D ρ b A mL w0 t0 en lv st h n ls xs ws tys H locs) {st' : List ex_V} {xs' : List Value} (h' : ex_sr ρ b ws st' xs') : ex_Rl s D ρ b A mL w0 t0 en lv st' h n ls xs' ws tys H locs := ⟨hR.1, hR.2.1, h', hR.2.2.2⟩
theorem ex_Rl.env (hR : ex_Rl s D ρ b A mL w0 t0 en lv st h n ls xs ws tys H locs) {en' : ex_E} (h' : ex_er ρ en') : ex_Rl s D ρ b A mL w0 t0 en' lv st h n ls xs ws tys H locs := ⟨hR.1, h', hR.2.2⟩
theorem ex_Rl.loc (hR : ex_Rl s D ρ b A mL w0 t0 en lv st h n ls xs ws tys H locs) {lv' : ex_L} {ls' : Array Slot} (h' : ∃ lw, lv_has ls' mL lw ∧ ex_lr ρ b ws lv' lw) : ex_Rl s D ρ b A mL w0 t0 en lv' st h n ls' xs ws tys H locs := ⟨h', hR.2⟩
theorem ex_Rl.push (hR : ex_Rl s D ρ b A mL w0 t0 en lv st h n ls xs ws tys H locs) {v : ex_V} {x : Value} (h' : ex_vr ρ b ws v x) : ex_Rl s D ρ b A mL w0 t0 en lv (v :: st) h n ls (x :: xs) ws tys H locs := hR.stk ⟨h', hR.sr⟩
end EXS
