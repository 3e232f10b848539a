theorem ex_hmt : ∀ (j : Nat) (M : ex_M), ex_mt j = some M → ∃ I, ex_mi j = some I ∧ ex_MO ex_mi M I := by
  intro j M hj
  have hj : ex_nth ex_ml j = some M := hj
  rw [ex_nth_get] at hj
  have l1 : ex_ml.length = 25 := by decide +kernel
  have l2 : ex_il.length = 25 := by decide +kernel
  have l3 : ex_wl.length = 25 := by decide +kernel
  have hlt := (List.getElem?_eq_some_iff.mp hj).1
  obtain ⟨I, hI⟩ : ∃ I, ex_il[j]? = some I := ⟨_, List.getElem?_eq_getElem (by rw [l2]; rw [l1] at hlt; exact hlt)⟩
  obtain ⟨w, hw⟩ : ∃ w, ex_wl[j]? = some w := ⟨_, List.getElem?_eq_getElem (by rw [l3]; rw [l1] at hlt; exact hlt)⟩
  have hz : ex_zl[j]? = some (M, I, w) := by
    unfold ex_zl
    rw [List.getElem?_zip_eq_some]
    refine ⟨hj, ?_⟩
    rw [List.getElem?_zip_eq_some]
    exact ⟨hI, hw⟩
  obtain ⟨h1, h2⟩ := ex_and (ex_zall j _ hz)
  exact ⟨I, (ex_nth_get _ _).trans hI, ex_mb_ok w h1 h2⟩
set_option maxRecDepth 1000000 in
theorem ex_y0 : ex_pb ex_mi RL "law" code 1 (some .boolean) ((ex_p_L_law.drop 0).take 40) = true := by decide +kernel
theorem ex_lawPO : ex_PO ex_mi RL "law" code 1 (some .boolean) ex_p_L_law := by
  intro q hq
  obtain ⟨i, hi⟩ := List.getElem?_of_mem hq
  have hlt : i < 11 := by
    have h1 := (List.getElem?_eq_some_iff.mp hi).1
    have h2 : ex_p_L_law.length = 11 := by decide +kernel
    omega
  have key : ∀ a : Nat, a ≤ i → i < a + 40 → ex_pb ex_mi RL "law" code 1 (some .boolean) ((ex_p_L_law.drop a).take 40) = true → decode code q.1 = .ok (q.2.1, q.2.2.1) ∧ ex_qk ex_mi RL "law" 1 (some .boolean) q = true := fun a h1 h2 h3 => ex_pb_ok h3 q (List.mem_of_getElem? (i := i - a) (by rw [List.getElem?_take_of_lt (by omega), List.getElem?_drop, show a + (i - a) = i by omega]; exact hi))
  rcases (show i / 40 = 0 by omega) with h
  · exact key 0 (by omega) (by omega) ex_y0
theorem ex_gwp : ex_gw := by
  refine ⟨fun t ht => ?_, ⟨ex_wd_ok (i := 522) (by decide +kernel), ex_wd_ok (i := 521) (by decide +kernel), ex_wd_ok (i := 122) (by decide +kernel)⟩, ⟨ex_wd_ok (i := 137) (by decide +kernel), ex_wd_ok (i := 138) (by decide +kernel)⟩, fun ci rc hc => ?_⟩
  · rcases (show t = 0 ∨ t = 1 ∨ t = 2 ∨ t = 3 by omega) with rfl | rfl | rfl | rfl
    · exact ex_wd_ok (i := 187) (by decide +kernel)
    · exact ex_wd_ok (i := 155) (by decide +kernel)
    · exact ex_wd_ok (i := 297) (by decide +kernel)
    · exact ex_wd_ok (i := 504) (by decide +kernel)
  · match ci, hc with
    | 0, hc => cases hc; exact ⟨ex_wd_ok (i := 432) (by decide +kernel), ex_wd_ok (i := 119) (by decide +kernel)⟩
    | 1, hc => cases hc; exact ⟨ex_wd_ok (i := 347) (by decide +kernel), ex_wd_ok (i := 118) (by decide +kernel)⟩
    | 2, hc => cases hc; exact ⟨ex_wd_ok (i := 169) (by decide +kernel), ex_wd_ok (i := 115) (by decide +kernel)⟩
    | 3, hc => cases hc; exact ⟨ex_wd_ok (i := 157) (by decide +kernel), ex_wd_ok (i := 113) (by decide +kernel)⟩
    | 4, hc => cases hc; exact ⟨ex_wd_ok (i := 341) (by decide +kernel), ex_wd_ok (i := 117) (by decide +kernel)⟩
    | 5, hc => cases hc; exact ⟨ex_wd_ok (i := 455) (by decide +kernel), ex_wd_ok (i := 120) (by decide +kernel)⟩
    | 6, hc => cases hc; exact ⟨ex_wd_ok (i := 140) (by decide +kernel), ex_wd_ok (i := 112) (by decide +kernel)⟩
    | 7, hc => cases hc; exact ⟨ex_wd_ok (i := 275) (by decide +kernel), ex_wd_ok (i := 116) (by decide +kernel)⟩
    | 8, hc => cases hc; exact ⟨ex_wd_ok (i := 163) (by decide +kernel), ex_wd_ok (i := 114) (by decide +kernel)⟩
    | 9, hc => cases hc; exact ⟨ex_wd_ok (i := 132) (by decide +kernel), ex_wd_ok (i := 111) (by decide +kernel)⟩
    | 10, hc => cases hc; exact ⟨ex_wd_ok (i := 1221) (by decide +kernel), ex_wd_ok (i := 123) (by decide +kernel)⟩
    | k + 11, hc => simp [vwCl] at hc
def ex_dv (v : ex_V) : Value := match v with
  | .inl _ => .int 0
  | .inr (.inl _) => .null
  | .inr (.inr _) => .long 0
def ex_isD (v : ex_V) : Bool := ex_veq v (ex_k 2147483648) || ex_veq v (ex_a none) || ex_veq v (ex_j 0)
theorem ex_isD_ok {v : ex_V} (h : ex_isD v = true) (ρ : Nat → Int32) (b : Nat) (ws : va_W) : ex_vr ρ b ws v (ex_dv v) := by
  rcases Bool.or_eq_true _ _ |>.mp h with h | h
  · rcases Bool.or_eq_true _ _ |>.mp h with h | h
    · cases ex_veq_ok h
      exact ⟨0, rfl, ex_u_0⟩
    · cases ex_veq_ok h
      rfl
  · cases ex_veq_ok h
    rfl
theorem ex_gd1 {ci N : Nat} {T : u_T} {tyX : Nat → FieldType} (h1 : (ex_df ci).length = N) (h2 : (ex_df ci).all ex_isD = true) (h3 : ∀ k, k < N → parseFieldDescriptor (T k).2.2.1 = some (tyX k)) (h4 : ∀ j, j < N → defaultValue (tyX j) = vp_V ((ex_df ci).map ex_dv) j) : (ex_df ci).length = N ∧ ∀ (ty0 : Nat → FieldType), (∀ k, k < N → parseFieldDescriptor (T k).2.2.1 = some (ty0 k)) → ∃ fs : List Value, fs.length = N ∧ (∀ j, j < N → defaultValue (ty0 j) = vp_V fs j) ∧ ∀ (j : Nat) (v : ex_V), ex_nth (ex_df ci) j = some v → ∀ (ρ : Nat → Int32) (b : Nat) (ws : va_W), ∃ x, fs[j]? = some x ∧ ex_vr ρ b ws v x := by
  refine ⟨h1, fun ty0 hty => ⟨(ex_df ci).map ex_dv, by rw [List.length_map]; exact h1, fun j hj => ?_, fun j v hv ρ b ws => ?_⟩⟩
  · have e := (hty j hj).symm.trans (h3 j hj)
    injection e with e
    rw [e]
    exact h4 j hj
  · rw [ex_nth_get] at hv
    exact ⟨ex_dv v, by rw [List.getElem?_map, hv]; rfl, ex_isD_ok (List.all_eq_true.mp h2 v (List.mem_of_getElem? hv)) ρ b ws⟩
theorem ex_gdp : ex_gd ex_df := by
  intro ci rc hc
  match ci, hc with
  | 0, hc => cases hc; exact ex_gd1 (tyX := tyX0) (by decide +kernel) (by decide +kernel) tyX0_ok (by decide +kernel)
  | 1, hc => cases hc; exact ex_gd1 (tyX := tyX1) (by decide +kernel) (by decide +kernel) tyX1_ok (by decide +kernel)
  | 2, hc => cases hc; exact ex_gd1 (tyX := tyX2) (by decide +kernel) (by decide +kernel) tyX2_ok (by decide +kernel)
  | 3, hc => cases hc; exact ex_gd1 (tyX := tyX3) (by decide +kernel) (by decide +kernel) tyX3_ok (by decide +kernel)
  | 4, hc => cases hc; exact ex_gd1 (tyX := tyX4) (by decide +kernel) (by decide +kernel) tyX4_ok (by decide +kernel)
  | 5, hc => cases hc; exact ex_gd1 (tyX := tyX5) (by decide +kernel) (by decide +kernel) tyX5_ok (by decide +kernel)
  | 6, hc => cases hc; exact ex_gd1 (tyX := tyX6) (by decide +kernel) (by decide +kernel) tyX6_ok (by decide +kernel)
  | 7, hc => cases hc; exact ex_gd1 (tyX := tyX7) (by decide +kernel) (by decide +kernel) tyX7_ok (by decide +kernel)
  | 8, hc => cases hc; exact ex_gd1 (tyX := tyX8) (by decide +kernel) (by decide +kernel) tyX8_ok (by decide +kernel)
  | 9, hc => cases hc; exact ex_gd1 (tyX := tyX9) (by decide +kernel) (by decide +kernel) tyX9_ok (by decide +kernel)
  | 10, hc => cases hc; exact ex_gd1 (tyX := tyX10) (by decide +kernel) (by decide +kernel) tyX10_ok (by decide +kernel)
  | k + 11, hc => simp [vwCl] at hc
