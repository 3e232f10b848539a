/-- all ops, light and heavy -/
theorem ex_oall {P : Nat → ex_E → Prop} (cut : ∀ (t : Nat) (en : ex_E) (i c : Nat) (q : Nat × Nat), ex_nth en i = some q → P t (ex_set en i (q.1, c)) → P t (ex_set en i (c + 1, q.2)) → P t en) (fin : ∀ (t : Nat) (e : ex_E), ex_fin (ex_run ex_mt ex_df 6 20000 1000000 20 true ex_law e (ex_at0 t)) = true → P t e) : ∀ t ∈ ex_tg, P t ex_en0 := by
  intro t ht
  simp only [ex_tg, List.mem_cons, List.not_mem_nil, or_false] at ht
  rcases ht with rfl | rfl | rfl | rfl | rfl | rfl | rfl | rfl | rfl | rfl | rfl | rfl | rfl | rfl | rfl | rfl | rfl | rfl | rfl | rfl | rfl | rfl | rfl | rfl | rfl | rfl | rfl | rfl | rfl | rfl | rfl | rfl | rfl | rfl | rfl | rfl | rfl | rfl | rfl | rfl | rfl | rfl | rfl | rfl | rfl | rfl | rfl | rfl | rfl | rfl | rfl | rfl
  · exact fin 252 _ ex_o0
  · exact fin 315 _ ex_o1
  · exact fin 338 _ ex_o2
  · exact fin 351 _ ex_o3
  · exact fin 374 _ ex_o4
  · exact fin 407 _ ex_o5
  · exact fin 440 _ ex_o6
  · exact fin 463 _ ex_o7
  · exact fin 486 _ ex_o8
  · exact fin 509 _ ex_o9
  · exact fin 522 _ ex_o10
  · exact fin 545 _ ex_o11
  · exact fin 578 _ ex_o12
  · exact fin 611 _ ex_o13
  · exact fin 634 _ ex_o14
  · exact fin 657 _ ex_o15
  · exact fin 670 _ ex_o16
  · exact ex_o17 (cut 683) (fin 683)
  · exact fin 716 _ ex_o18
  · exact ex_o19 (cut 739) (fin 739)
  · exact fin 762 _ ex_o20
  · exact fin 795 _ ex_o21
  · exact fin 828 _ ex_o22
  · exact fin 841 _ ex_o23
  · exact fin 874 _ ex_o24
  · exact fin 897 _ ex_o25
  · exact ex_o26 (cut 930) (fin 930)
  · exact fin 953 _ ex_o27
  · exact fin 986 _ ex_o28
  · exact fin 1009 _ ex_o29
  · exact fin 1042 _ ex_o30
  · exact fin 1065 _ ex_o31
  · exact ex_o32 (cut 1098) (fin 1098)
  · exact ex_o33 (cut 1131) (fin 1131)
  · exact fin 1164 _ ex_o34
  · exact fin 1177 _ ex_o35
  · exact fin 1190 _ ex_o36
  · exact fin 1203 _ ex_o37
  · exact fin 1226 _ ex_o38
  · exact ex_o39 (cut 1239) (fin 1239)
  · exact fin 1262 _ ex_o40
  · exact fin 1295 _ ex_o41
  · exact fin 1318 _ ex_o42
  · exact fin 1377 _ ex_o43
  · exact fin 1400 _ ex_o44
  · exact fin 1423 _ ex_o45
  · exact fin 1446 _ ex_o46
  · exact fin 1479 _ ex_o47
  · exact fin 1512 _ ex_o48
  · exact fin 1535 _ ex_o49
  · exact fin 1558 _ ex_o50
  · exact fin 1581 _ ex_o51
