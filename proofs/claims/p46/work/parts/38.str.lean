/-! texts: what is so of them, and steps on them -/
def ty_tx0 : String := ";()<>=+-*/%"
def ty_tx1 : String := "roads   word    moves   tires   comer   road    says    mood    worth   keeps   whim    draw    or      and     not     moved   many    waited  behind  hatch   "
abbrev ty_fmt : String := "Ljava/util/function/BiFunction;"
def ty_Z (sa : Nat → Nat) (A : Nat → Prop) (U : State) : Prop := (∃ byt, vk_S 2 [11, 160] byt sa (fun i => sa (i + 2)) A U U.heap) ∧ vk_R "HatchLights$Tokens" 59 ty_tx0 (sa 0) U ∧ vk_R "HatchLights$Tokens" 73 ty_tx1 (sa 1) U ∧ va_Z "java/lang/String" "COMPACT_STRINGS" "Z" (.int 1) A U U.heap ∧ (va_Z "jdk/internal/util/Preconditions" "SIOOBE_FORMATTER" ty_fmt .null A U U.heap ∨ ∃ t, va_Z "jdk/internal/util/Preconditions" "SIOOBE_FORMATTER" ty_fmt (.ref t) A U U.heap)
theorem ty_Z.go {sa : Nat → Nat} {A B : Nat → Prop} {s U : State} {H : Heap} {locs : List Loc} (h : ty_Z sa A s) (hW : s.WarmedH U.vm) (hU : U.heap = H) (hS : va_S A s.heap H locs) (hAB : ∀ q, B q → A q) : ty_Z sa B U := by
  obtain ⟨⟨byt, h1⟩, h2, h3, h4, h5⟩ := h
  subst hU
  have k : ∀ a : Nat, a < s.heap.size → ¬ A a → U.heap[a]? = s.heap[a]? := hS.2.1
  refine ⟨⟨byt, ((h1.kept k).moved hW.alike).narrow hAB⟩, h2.warm hW, h3.warm hW, ((h4.kept k).moved hW.alike).narrow hAB, ?_⟩
  rcases h5 with h5 | ⟨t, h5⟩
  · exact Or.inl (((h5.kept k).moved hW.alike).narrow hAB)
  · exact Or.inr ⟨t, ((h5.kept k).moved hW.alike).narrow hAB⟩
theorem ty_Z.same {sa : Nat → Nat} {A : Nat → Prop} {u U : State} (h : ty_Z sa A u) (hv : U.vm = u.vm) (hh : U.heap = u.heap) : ty_Z sa A U := by
  obtain ⟨⟨byt, h1⟩, h2, h3, h4, h5⟩ := h
  have hA : u.vm.Alike U.vm := by rw [hv]; exact Vm.Alike.refl _
  refine ⟨⟨byt, by rw [hh]; exact h1.moved hA⟩, h2.same hv, h3.same hv, by rw [hh]; exact h4.moved hA, ?_⟩
  rw [hh]
  rcases h5 with h5 | ⟨t, h5⟩
  · exact Or.inl (h5.moved hA)
  · exact Or.inr ⟨t, h5.moved hA⟩
section TYV
variable {p : Program} {l : Launch} {en : Env} {R : Room} {s : State} {m : MethodId} {args : Array Value} {below : List Frame} {meth : Method} {c : Code} {k1 k2 : Nat} {Q : State → Prop} {D : va_G} {b : Nat} {sa : Nat → Nat} {A : Nat → Prop} {mL nr : Nat} {ρ0 ρ : Nat → Int} {w0 : va_W} {tys : List (ClassId × FieldType)} {ms : ty_M} {pr : List ex_P}
variable {e : ty_E} {lv : ty_L} {st : List ty_V} {K : ty_K} {ls : Array Slot} {xs : List Value} {ws : va_W} {H : Heap} {locs : List Loc} {q : ex_P} {r : List ex_P} {o : List (ty_E × ty_S)}
variable {σ : Nat → Int32} {L d : Nat} {own nm : String} {cd : ByteArray} {cap : Nat × Nat} {isl : Bool}
theorem ty_bd8 {byt : List (List Int32)} {sv : Nat → Nat} (h : vk_S 2 [11, 160] byt sa sv A s s.heap) {i N : Nat} (hi : i < 2) (hN : [11, 160].getD i 0 = N) {y : Int32} (h0 : 0 ≤ y.toInt) (h1 : y.toInt ≤ (N : Int) - 1) : vp_in y N ∧ va_T .byte (sv i) N (fun j => .int ((byt.getD i []).getD j 0)) A s s.heap := by
  obtain ⟨i1, i2, i3, i4⟩ := ty_ix (y := y) (N := N) (by omega) (by omega)
  have := (h.1 i hi).2.2.2
  rw [hN] at this
  exact ⟨i1, this⟩
set_option maxHeartbeats 1000000 in
theorem ty_sst_ok (X : ex_X p R s m args meth c σ b L A own nm cd mL d cap isl) (Z : ty_Z sa A s) (hk : ty_pk own nm q = true) (hdg : decode cd q.1 = .ok (q.2.1, q.2.2.1)) (hst : ty_str q st = true)
    (hs : ty_sst q r e lv st K = some o) (hN : ty_NN p l en R s m args below meth c k1 k2 Q D b sa A mL nr ρ0 w0 tys ms pr o) (hsub : ∀ x ∈ q :: r, x ∈ pr) (ha : ty_ag nr ρ0 ρ) (hR : ty_Rl s D b sa A mL nr w0 tys ms ρ e lv st K ls xs ws H locs) : W p l en R s m args below meth c H locs k1 k2 Q (F0 m q.1 ls xs) := by
  obtain ⟨x1, x2, x3, x4, x5, x6, x7, x8, x9, x10, x11, x12, x13⟩ := id X
  obtain ⟨⟨byt, z1⟩, z2, z3, z4, z5⟩ := Z
  obtain ⟨pc, ins, len, a1, a2, a3, ts⟩ := q
  have hdg : decode cd pc = .ok (ins, len) := hdg
  unfold ty_sst at hs
  split at hs
  · rename_i st0 i0 stx ix hins
    have hins : ins = .ldc ix := hins
    subst hins
    have hst : Nat.beq a3 9 = true := hst
    obtain ⟨h1, h2⟩ := ex_bifs hs
    have h1 : a1 < 2 := Nat.le_of_ble_eq_true h1
    have hk : (bif Nat.beq a3 9 then Nat.beq len 2 && decide (ty_sk a1 = (own, ix)) else ex_pk own nm (pc, .ldc ix, len, a1, a2, a3, ts)) = true := hk
    rw [hst] at hk
    obtain ⟨k1', k2'⟩ := ex_and hk
    have k1' : len = 2 := ex_beq k1'
    subst k1'
    have k2' := of_decide_eq_true k2'
    have fin : ∀ tx, vk_R own ix tx (sa a1) s → W p l en R s m args below meth c H locs k1 k2 Q (F0 m pc ls xs) := fun tx hz => va_ldcS x1 x2 x4 hz hdg (ty_ft_ok h2 hN hsub ha (hR.push (v := ty_x a1) (x := .ref (sa a1)) ⟨fun _ => rfl, Or.inr ⟨_, rfl⟩⟩))
    match a1, h1, k2', fin with
    | 0, _, k2', fin =>
      have e1 : (("HatchLights$Tokens", 59) : String × Nat) = (own, ix) := k2'
      injection e1 with e1 e2
      subst e1
      subst e2
      exact fin _ z2
    | 1, _, k2', fin =>
      have e1 : (("HatchLights$Tokens", 73) : String × Nat) = (own, ix) := k2'
      injection e1 with e1 e2
      subst e1
      subst e2
      exact fin _ z3
    | k + 2, h, _, _ => exact absurd h (by omega)
  · rename_i st0 i0 stx ix hins
    have hins : ins = .getstatic ix := hins
    subst hins
    obtain ⟨k1', k2'⟩ := ex_and (show (Nat.beq len 3 && (bif Nat.beq a1 0 then ty_wf own ix ts "java/lang/String" "COMPACT_STRINGS" "Z" else ty_wf own ix ts "jdk/internal/util/Preconditions" "SIOOBE_FORMATTER" "Ljava/util/function/BiFunction;")) = true from hk)
    have k1' : len = 3 := ex_beq k1'
    subst k1'
    cases hb : Nat.beq a1 0 with
    | true =>
      rw [hb] at k2'
      have hs : (bif Nat.beq a1 0 then ty_ft (pc, .getstatic ix, 3, a1, a2, a3, ts) r e lv (ty_i (ty_k 1) :: st0) K else ty_ft (pc, .getstatic ix, 3, a1, a2, a3, ts) r e lv (ty_x 100 :: st0) K) = some o := hs
      rw [hb] at hs
      exact va_gets x1 x2 z4 hR.hS x4 (x5 _ (ty_wf_ok k2')) (fun _ h => h) hdg (ty_ft_ok (show ty_ft (pc, .getstatic ix, 3, a1, a2, a3, ts) r e lv (ty_i (ty_k 1) :: st0) K = some o from hs) hN hsub ha (hR.push (v := ty_i (ty_k 1)) (x := .int 1) ⟨1, rfl, ty_is_k _ _ _⟩))
    | false =>
      rw [hb] at k2'
      have hs : (bif Nat.beq a1 0 then ty_ft (pc, .getstatic ix, 3, a1, a2, a3, ts) r e lv (ty_i (ty_k 1) :: st0) K else ty_ft (pc, .getstatic ix, 3, a1, a2, a3, ts) r e lv (ty_x 100 :: st0) K) = some o := hs
      rw [hb] at hs
      have hs : ty_ft (pc, .getstatic ix, 3, a1, a2, a3, ts) r e lv (ty_x 100 :: st0) K = some o := hs
      rcases z5 with z5 | ⟨t, z5⟩
      · exact va_gets x1 x2 z5 hR.hS x4 (x5 _ (ty_wf_ok k2')) (fun _ h => h) hdg (ty_ft_ok hs hN hsub ha (hR.push (v := ty_x 100) (x := .null) ⟨fun z => absurd z (by decide), Or.inl rfl⟩))
      · exact va_gets x1 x2 z5 hR.hS x4 (x5 _ (ty_wf_ok k2')) (fun _ h => h) hdg (ty_ft_ok hs hN hsub ha (hR.push (v := ty_x 100) (x := .ref t) ⟨fun z => absurd z (by decide), Or.inr ⟨_, rfl⟩⟩))
  · rename_i ix n rest hins
    have hins : ins = .getfield ix := hins
    subst hins
    have hst : Nat.beq a1 99 = true := hst
    obtain ⟨h1, h2⟩ := ex_bifs hs
    have h1 : n < 2 := Nat.le_of_ble_eq_true h1
    have hk : (bif Nat.beq a1 99 then Nat.beq len 3 && (bif Nat.beq a2 0 then ty_wf own ix ts "java/lang/String" "value" "[B" else ty_wf own ix ts "java/lang/String" "coder" "B") else ex_pk own nm (pc, .getfield ix, len, a1, a2, a3, ts)) = true := hk
    rw [hst] at hk
    obtain ⟨k1', k2'⟩ := ex_and hk
    have k1' : len = 3 := ex_beq k1'
    subst k1'
    obtain ⟨x, xr, rfl, hv, hr⟩ := ty_sr_cons hR.sr
    have hv := hv.1 (by omega)
    subst hv
    have hz := z1.1 n h1
    have h2 : (bif Nat.beq a2 0 then ty_ft (pc, .getfield ix, 3, a1, a2, a3, ts) r e lv (ty_x (n + 2) :: rest) K else ty_ft (pc, .getfield ix, 3, a1, a2, a3, ts) r e lv (ty_i (ty_k 0) :: rest) K) = some o := h2
    cases hb : Nat.beq a2 0 with
    | true =>
      rw [hb] at k2' h2
      exact vk_getf x1 x2 hz.2.2.1 hR.hS x4 (x5 _ (ty_wf_ok k2')) (fun _ h => h) hdg (ty_ft_ok (show ty_ft (pc, .getfield ix, 3, a1, a2, a3, ts) r e lv (ty_x (n + 2) :: rest) K = some o from h2) hN hsub ha ((hR.stk hr).push (v := ty_x (n + 2)) (x := .ref (sa (n + 2))) ⟨fun _ => rfl, Or.inr ⟨_, rfl⟩⟩))
    | false =>
      rw [hb] at k2' h2
      exact vk_getf x1 x2 hz.2.1 hR.hS x4 (x5 _ (ty_wf_ok k2')) (fun _ h => h) hdg (ty_ft_ok (show ty_ft (pc, .getfield ix, 3, a1, a2, a3, ts) r e lv (ty_i (ty_k 0) :: rest) K = some o from h2) hN hsub ha ((hR.stk hr).push (v := ty_i (ty_k 0)) (x := .int 0) ⟨0, rfl, ty_is_k _ _ _⟩))
  · rename_i n rest hins
    have hins : ins = .arraylength := hins
    subst hins
    have hlen : len = 1 := ex_beq (show Nat.beq len 1 = true from hk)
    subst hlen
    obtain ⟨x, xr, rfl, hv, hr⟩ := ty_sr_cons hR.sr
    have fin : ∀ (i N : Nat), i < 2 → n = i + 2 → [11, 160].getD i 0 = N → N < 200 → ty_ft (pc, .arraylength, 1, a1, a2, a3, ts) r e lv (ty_i (ty_k (N : Int)) :: rest) K = some o → W p l en R s m args below meth c H locs k1 k2 Q (F0 m pc ls (x :: xr)) := fun i N hi hn hN' hlt hf => by
      have hv := hv.1 (by omega)
      subst hv
      have hT := (z1.1 i hi).2.2.2
      rw [hN'] at hT
      have hx : ty_vr b sa e.1 ρ ws (ty_i (ty_k (N : Int))) (.int (Int32.ofNat N)) := ⟨Int32.ofNat N, rfl, by
        have : (Int32.ofNat N).toInt = (N : Int) := nI_toInt (by omega)
        rw [this]
        exact ty_is_k _ _ _⟩
      subst hn
      exact va_tlen x1 x2 hT hR.hS rfl hdg (ty_ft_ok hf hN hsub ha ((hR.stk hr).push hx))
    have hs : (bif Nat.beq n 2 then ty_ft (pc, .arraylength, 1, a1, a2, a3, ts) r e lv (ty_i (ty_k 11) :: rest) K else bif Nat.beq n 3 then ty_ft (pc, .arraylength, 1, a1, a2, a3, ts) r e lv (ty_i (ty_k 160) :: rest) K else none) = some o := hs
    rcases ex_bif (P := fun z => z = some o) hs with ⟨g1, g2⟩ | ⟨-, hs⟩
    · exact fin 0 11 (by omega) (ex_beq g1) rfl (by omega) g2
    · obtain ⟨g1, g2⟩ := ex_bifs hs
      exact fin 1 160 (by omega) (ex_beq g1) rfl (by omega) g2
  · rename_i ti n rest hins
    have hins : ins = .baload := hins
    subst hins
    have hlen : len = 1 := ex_beq (show Nat.beq len 1 = true from hk)
    subst hlen
    obtain ⟨x0, x1', rfl, ⟨y, rfl, hy⟩, hr1⟩ := ty_sr_cons hR.sr
    obtain ⟨x2', xr, rfl, hv, hr⟩ := ty_sr_cons hr1
    obtain ⟨h1, h2⟩ := ex_bifs hs
    have fin : ∀ (i N : Nat), i < 2 → n = i + 2 → [11, 160].getD i 0 = N → ty_in e ti 0 ((N : Int) - 1) = true → W p l en R s m args below meth c H locs k1 k2 Q (F0 m pc ls (.int y :: x2' :: xr)) := fun i N hi hn hN' hin => by
      have hv := hv.1 (by omega)
      subst hv
      have hb := ty_in_ok hR.er hin
      rw [hy.2] at hb
      obtain ⟨t1, t2⟩ := ty_bd8 z1 hi hN' hb.1 hb.2
      subst hn
      obtain ⟨ρ', a1', a2', a3', a4'⟩ := ty_res0 hR.er (ty_rg ((byt.getD i []).getD y.toNatClampNeg 0)).1 (ty_rg ((byt.getD i []).getD y.toNatClampNeg 0)).2
      exact va_tb x1 x2 t2 hR.hS t1 rfl hdg (ty_ft_ok h2 hN hsub (ha.tr a1' hR.nle) (((hR.stk hr).env a1' a3' a2').push (v := ty_i (ty_s e.1)) ⟨_, rfl, a4'⟩))
    rcases Bool.or_eq_true _ _ |>.mp h1 with h1 | h1
    · obtain ⟨g1, g2⟩ := ex_and h1
      exact fin 0 11 (by omega) (ex_beq g1) rfl g2
    · obtain ⟨g1, g2⟩ := ex_and h1
      exact fin 1 160 (by omega) (ex_beq g1) rfl g2
  · cases hs
end TYV
