noncomputable def ex_mb (mi : Nat → Option ex_I) (M : ex_M) (I : ex_I) (ws : Nat × Nat × Nat × Nat) : Bool :=
  plainName I.1.cls && ex_wd ws.1 (Cond.code I.1 I.2.1 M.2.1 I.2.2.1) && Nat.ble M.2.1 40 && ex_wd ws.2.1 (Cond.initialized I.1.cls) && decide (I.1.cls ≠ "java/lang/invoke/MethodHandle" ∧ I.1.cls ≠ "java/lang/invoke/VarHandle" ∧ (parseMethodDescriptor I.1.desc).map (fun d => d.parameters.length) = some I.2.2.2.2) && (match I.2.2.2.1 with
    | 0 => ex_wd ws.2.2.1 (Cond.instanceMethod I.1) && ex_wd ws.2.2.2 (Cond.selects I.1.cls I.1 I.1) && Nat.ble (I.2.2.2.2 + 1) M.2.1
    | 1 => ex_wd ws.2.2.1 (Cond.static I.1) && Nat.ble I.2.2.2.2 M.2.1
    | 2 => decide (I.1.name = "<init>") && ex_wd ws.2.2.1 (Cond.instanceMethod I.1) && decide (I.2.2.1 = none) && Nat.ble (I.2.2.2.2 + 1) M.2.1
    | _ => false) && (match M.1 with
    | q :: _ => Nat.beq q.1 0
    | [] => false)
noncomputable def ex_pb (mi : Nat → Option ex_I) (own nm : String) (cd : ByteArray) (z : Nat) (ret : Option FieldType) (pr : List ex_P) : Bool := ex_every (fun q => decide (decode cd q.1 = .ok (q.2.1, q.2.2.1)) && ex_qk mi own nm z ret q) pr
theorem ex_pb_ok {mi : Nat → Option ex_I} {own nm : String} {cd : ByteArray} {z : Nat} {ret : Option FieldType} {pr : List ex_P} (h : ex_pb mi own nm cd z ret pr = true) : ex_PO mi own nm cd z ret pr := fun q hq => by
  obtain ⟨h1, h2⟩ := ex_and (ex_every_ok h q hq)
  exact ⟨of_decide_eq_true h1, h2⟩
theorem ex_mb_ok {mi : Nat → Option ex_I} {M : ex_M} {I : ex_I} (ws : Nat × Nat × Nat × Nat) (h : ex_mb mi M I ws = true) (hp : ex_pb mi I.1.cls I.1.name I.2.1 M.2.2.1 I.2.2.1 M.1 = true) : ex_MO mi M I := by
  unfold ex_mb at h
  obtain ⟨h, h7⟩ := ex_and h
  obtain ⟨h, h6⟩ := ex_and h
  obtain ⟨h, h5⟩ := ex_and h
  obtain ⟨h, h4⟩ := ex_and h
  obtain ⟨h, h3⟩ := ex_and h
  obtain ⟨h1, h2⟩ := ex_and h
  have hd : ∃ q r, M.1 = q :: r ∧ q.1 = 0 := by
    split at h7
    · rename_i q r hq
      exact ⟨q, r, hq, ex_beq h7⟩
    · cases h7
  refine ⟨h1, ex_wd_ok h2, ex_ble h3, ex_wd_ok h4, of_decide_eq_true h5, ?_, ?_, hd, ex_pb_ok hp⟩
  · split at h6
    · rename_i hk
      obtain ⟨h6, h9⟩ := ex_and h6
      obtain ⟨h6, h8⟩ := ex_and h6
      exact ⟨fun _ => ⟨ex_wd_ok h6, ex_wd_ok h8⟩, (fun z => by omega), (fun z => by omega)⟩
    · rename_i hk
      obtain ⟨h6, h9⟩ := ex_and h6
      exact ⟨(fun z => by omega), fun _ => ex_wd_ok h6, (fun z => by omega)⟩
    · rename_i hk
      obtain ⟨h6, h9⟩ := ex_and h6
      obtain ⟨h6, h8⟩ := ex_and h6
      obtain ⟨h6, h0⟩ := ex_and h6
      exact ⟨(fun z => by omega), (fun z => by omega), fun _ => ⟨of_decide_eq_true h6, ex_wd_ok h0, of_decide_eq_true h8⟩⟩
    · cases h6
  · split at h6
    · obtain ⟨h6, h9⟩ := ex_and h6
      exact Or.inl (ex_ble h9)
    · rename_i hk
      obtain ⟨h6, h9⟩ := ex_and h6
      exact Or.inr ⟨hk, ex_ble h9⟩
    · obtain ⟨h6, h9⟩ := ex_and h6
      exact Or.inl (ex_ble h9)
    · cases h6

abbrev ex_wl : List (Nat × Nat × Nat × Nat) := [(435, 119, 434, 0), (526, 119, 524, 525), (350, 118, 349, 0), (172, 115, 171, 0), (195, 115, 193, 194), (199, 115, 197, 198), (160, 113, 159, 0), (344, 117, 343, 0), (512, 117, 510, 511), (530, 117, 528, 529), (458, 120, 457, 0), (534, 120, 532, 533), (143, 112, 142, 0), (278, 116, 277, 0), (166, 114, 165, 0), (191, 114, 189, 190), (135, 111, 134, 0), (508, 111, 507, 0), (1224, 123, 1223, 0), (1229, 123, 1228, 43), (1245, 123, 1244, 47), (1241, 123, 1240, 46), (1233, 123, 1232, 44), (1237, 123, 1236, 45), (515, 121, 514, 0)]
noncomputable def ex_zb (mi : Nat → Option ex_I) (x : ex_M × ex_I × (Nat × Nat × Nat × Nat)) : Bool := ex_mb mi x.1 x.2.1 x.2.2 && ex_pb mi x.2.1.1.cls x.2.1.1.name x.2.1.2.1 x.1.2.2.1 x.2.1.2.2.1 x.1.1
noncomputable def ex_zl : List (ex_M × ex_I × (Nat × Nat × Nat × Nat)) := ex_ml.zip (ex_il.zip ex_wl)
