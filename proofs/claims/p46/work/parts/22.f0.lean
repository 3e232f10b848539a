noncomputable def ty_msb (I : ex_I) (nL : Nat) (ws : Nat × Nat × Nat × Nat) : Bool :=
  plainName I.1.cls && ex_wd ws.1 (Cond.code I.1 I.2.1 nL I.2.2.1) && Nat.ble nL 40 && ex_wd ws.2.1 (Cond.initialized I.1.cls) && decide (I.1.cls ≠ "java/lang/invoke/MethodHandle" ∧ I.1.cls ≠ "java/lang/invoke/VarHandle" ∧ (parseMethodDescriptor I.1.desc).map (fun d => d.parameters.length) = some I.2.2.2.2) && (match I.2.2.2.1 with
    | 0 => ex_wd ws.2.2.1 (Cond.instanceMethod I.1) && ex_wd ws.2.2.2 (Cond.selects I.1.cls I.1 I.1)
    | 1 => ex_wd ws.2.2.1 (Cond.static I.1)
    | _ => false)
noncomputable def ty_pb (mi : Nat → Option ex_I) (own nm : String) (cd : ByteArray) (z : Nat) (ret : Option FieldType) (pr : List ex_P) : Bool := ty_every (fun q => decide (decode cd q.1 = .ok (q.2.1, q.2.2.1)) && ty_qk mi own nm z ret q) pr
theorem ty_msb_ok {I : ex_I} {nL : Nat} (ws : Nat × Nat × Nat × Nat) (h : ty_msb I nL ws = true) : ty_MS I nL := by
  unfold ty_msb at h
  obtain ⟨h, h6⟩ := ex_and h
  obtain ⟨h, h5⟩ := ex_and h
  obtain ⟨h, h4⟩ := ex_and h
  obtain ⟨h, h3⟩ := ex_and h
  obtain ⟨h1, h2⟩ := ex_and h
  refine ⟨h1, ex_wd_ok h2, ex_ble h3, ex_wd_ok h4, of_decide_eq_true h5, ?_⟩
  split at h6
  · rename_i hk
    obtain ⟨h6, h8⟩ := ex_and h6
    exact ⟨fun _ => ⟨ex_wd_ok h6, ex_wd_ok h8⟩, (fun z => by omega)⟩
  · rename_i hk
    exact ⟨(fun z => by omega), fun _ => ex_wd_ok h6⟩
  · cases h6
def ty_hd (pr : List ex_P) : Bool := match pr with
  | q :: _ => Nat.beq q.1 0
  | [] => false
theorem ty_mo {mi : Nat → Option ex_I} {M : ex_M} {I : ex_I} (ws : Nat × Nat × Nat × Nat) (h : (ty_msb I M.2.1 ws && (ty_hd M.1 && ty_pb mi I.1.cls I.1.name I.2.1 M.2.2.1 I.2.2.1 M.1)) = true) : ty_MO mi M I := by
  obtain ⟨h1, h2⟩ := ex_and h
  obtain ⟨h2, h3⟩ := ex_and h2
  refine ⟨ty_msb_ok ws h1, ?_, fun q hq => ?_⟩
  · unfold ty_hd at h2
    split at h2
    · rename_i q r hq
      exact ⟨q, r, hq, ex_beq h2⟩
    · cases h2
  · obtain ⟨k1, k2⟩ := ex_and (ty_every_t h3 q hq)
    exact ⟨of_decide_eq_true k1, k2⟩
def ty_MI (l : List (ex_M × ex_I)) : Prop := ∀ x ∈ l, ty_MO ty_mi x.1 x.2
