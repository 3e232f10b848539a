/-! the texts at the start -/
def ty_byt : List (List Int32) := [[59, 40, 41, 60, 62, 61, 43, 45, 42, 47, 37], [114, 111, 97, 100, 115, 32, 32, 32, 119, 111, 114, 100, 32, 32, 32, 32, 109, 111, 118, 101, 115, 32, 32, 32, 116, 105, 114, 101, 115, 32, 32, 32, 99, 111, 109, 101, 114, 32, 32, 32, 114, 111, 97, 100, 32, 32, 32, 32, 115, 97, 121, 115, 32, 32, 32, 32, 109, 111, 111, 100, 32, 32, 32, 32, 119, 111, 114, 116, 104, 32, 32, 32, 107, 101, 101, 112, 115, 32, 32, 32, 119, 104, 105, 109, 32, 32, 32, 32, 100, 114, 97, 119, 32, 32, 32, 32, 111, 114, 32, 32, 32, 32, 32, 32, 97, 110, 100, 32, 32, 32, 32, 32, 110, 111, 116, 32, 32, 32, 32, 32, 109, 111, 118, 101, 100, 32, 32, 32, 109, 97, 110, 121, 32, 32, 32, 32, 119, 97, 105, 116, 101, 100, 32, 32, 98, 101, 104, 105, 110, 100, 32, 32, 104, 97, 116, 99, 104, 32, 32, 32]]
def ty_tmS (i : Nat) : Term := .string "HatchLights$Tokens" (if i = 0 then 59 else 73)
abbrev ty_em (i j : Nat) : Cond := Cond.eq (.elem (.field (ty_tmS i) "java/lang/String" "value" "[B") (.int (Int32.ofNat j))) (.int ((ty_byt.getD i []).getD j 0))
set_option maxRecDepth 1000000 in
theorem ty_em1_0 : ∀ j, j < 20 → (flatC (Jvm.Cond.and given_1 narrow_1))[13 + j]? = some (ty_em 1 (0 + j)) := by decide +kernel
set_option maxRecDepth 1000000 in
theorem ty_em1_1 : ∀ j, j < 20 → (flatC (Jvm.Cond.and given_1 narrow_1))[33 + j]? = some (ty_em 1 (20 + j)) := by decide +kernel
set_option maxRecDepth 1000000 in
theorem ty_em1_2 : ∀ j, j < 20 → (flatC (Jvm.Cond.and given_1 narrow_1))[53 + j]? = some (ty_em 1 (40 + j)) := by decide +kernel
set_option maxRecDepth 1000000 in
theorem ty_em1_3 : ∀ j, j < 20 → (flatC (Jvm.Cond.and given_1 narrow_1))[73 + j]? = some (ty_em 1 (60 + j)) := by decide +kernel
set_option maxRecDepth 1000000 in
theorem ty_em1_4 : ∀ j, j < 20 → (flatC (Jvm.Cond.and given_1 narrow_1))[93 + j]? = some (ty_em 1 (80 + j)) := by decide +kernel
set_option maxRecDepth 1000000 in
theorem ty_em1_5 : ∀ j, j < 20 → (flatC (Jvm.Cond.and given_1 narrow_1))[113 + j]? = some (ty_em 1 (100 + j)) := by decide +kernel
set_option maxRecDepth 1000000 in
theorem ty_em1_6 : ∀ j, j < 20 → (flatC (Jvm.Cond.and given_1 narrow_1))[133 + j]? = some (ty_em 1 (120 + j)) := by decide +kernel
set_option maxRecDepth 1000000 in
theorem ty_em1_7 : ∀ j, j < 20 → (flatC (Jvm.Cond.and given_1 narrow_1))[153 + j]? = some (ty_em 1 (140 + j)) := by decide +kernel
set_option maxRecDepth 1000000 in
theorem ty_em0_0 : ∀ j, j < 11 → (flatC (Jvm.Cond.and given_1 narrow_1))[177 + j]? = some (ty_em 0 j) := by decide +kernel
theorem ty_ems : ∀ i, i < 2 → ∀ j, j < [11, 160].getD i 0 → ty_em i j ∈ flatC (Jvm.Cond.and given_1 narrow_1) := by
  intro i hi j hj
  rcases (show i = 0 ∨ i = 1 by omega) with rfl | rfl
  · exact List.mem_of_getElem? (ty_em0_0 j hj)
  · have hj : j < 160 := hj
    rcases (show j / 20 = 0 ∨ j / 20 = 1 ∨ j / 20 = 2 ∨ j / 20 = 3 ∨ j / 20 = 4 ∨ j / 20 = 5 ∨ j / 20 = 6 ∨ j / 20 = 7 by omega) with h | h | h | h | h | h | h | h
    · have := List.mem_of_getElem? (ty_em1_0 (j - 0) (by omega))
      rw [show 0 + (j - 0) = j by omega] at this
      exact this
    · have := List.mem_of_getElem? (ty_em1_1 (j - 20) (by omega))
      rw [show 20 + (j - 20) = j by omega] at this
      exact this
    · have := List.mem_of_getElem? (ty_em1_2 (j - 40) (by omega))
      rw [show 40 + (j - 40) = j by omega] at this
      exact this
    · have := List.mem_of_getElem? (ty_em1_3 (j - 60) (by omega))
      rw [show 60 + (j - 60) = j by omega] at this
      exact this
    · have := List.mem_of_getElem? (ty_em1_4 (j - 80) (by omega))
      rw [show 80 + (j - 80) = j by omega] at this
      exact this
    · have := List.mem_of_getElem? (ty_em1_5 (j - 100) (by omega))
      rw [show 100 + (j - 100) = j by omega] at this
      exact this
    · have := List.mem_of_getElem? (ty_em1_6 (j - 120) (by omega))
      rw [show 120 + (j - 120) = j by omega] at this
      exact this
    · have := List.mem_of_getElem? (ty_em1_7 (j - 140) (by omega))
      rw [show 140 + (j - 140) = j by omega] at this
      exact this
set_option maxRecDepth 1000000 in
theorem ty_Z0 {b : Nat} {s : State} (hts : ∀ w ∈ lw_tbl, w.before #[Value.ref b] s = true) (hgv : (Jvm.Cond.and given_1 narrow_1).before #[Value.ref b] s = true) : ∃ adK adV : Nat → Nat, ∀ sa : Nat → Nat, (∀ i, i < 2 → sa i = adK i ∧ sa (i + 2) = adV i) → ty_Z sa (fun q : Nat => s.heap.size ≤ q) s := by
  have hs := flat_of_before _ hgv
  have hA : ∀ a : Nat, a < s.heap.size → ¬ (fun q : Nat => s.heap.size ≤ q) a := fun a h => Nat.not_le.mpr h
  have k1 : ∀ i, i < 2 → Cond.exactly (ty_tmS i) "java/lang/String" ∈ flatC (Jvm.Cond.and given_1 narrow_1) := by decide +kernel
  have k2 : ∀ i, i < 2 → Cond.eq (.field (ty_tmS i) "java/lang/String" "coder" "B") (.int 0) ∈ flatC (Jvm.Cond.and given_1 narrow_1) := by decide +kernel
  have k3 : ∀ i, i < 2 → Cond.arrayOf (.field (ty_tmS i) "java/lang/String" "value" "[B") .byte ∈ flatC (Jvm.Cond.and given_1 narrow_1) := by decide +kernel
  have k4 : ∀ i, i < 2 → Cond.eq (.length (.field (ty_tmS i) "java/lang/String" "value" "[B")) (.int (Int32.ofNat ([11, 160].getD i 0))) ∈ flatC (Jvm.Cond.and given_1 narrow_1) := by decide +kernel
  have k5 := ty_ems
  have k6 : Cond.not (Cond.eq (ty_tmS 1) (ty_tmS 0)) ∈ flatC (Jvm.Cond.and given_1 narrow_1) := by decide +kernel
  have k7 : Cond.eq (.static "java/lang/String" "COMPACT_STRINGS" "Z") (.int 1) ∈ flatC (Jvm.Cond.and given_1 narrow_1) := by decide +kernel
  have k8 : Cond.isRef (.static "jdk/internal/util/Preconditions" "SIOOBE_FORMATTER" ty_fmt) ∈ flatC (Jvm.Cond.and given_1 narrow_1) := by decide +kernel
  obtain ⟨adK, adV, hS, hE⟩ := vk_Sof (args := #[Value.ref b]) (s := s) (N := 2) (tm := ty_tmS) (len := [11, 160]) (byt := ty_byt) (A := fun q : Nat => s.heap.size ≤ q) (fun i hi => by
      rcases (show i = 0 ∨ i = 1 by omega) with rfl | rfl <;> decide) (fun i hi => hs _ (k1 i hi)) (fun i hi => hs _ (k2 i hi)) (fun i hi => hs _ (k3 i hi)) (fun i hi => hs _ (k4 i hi)) (fun i hi j hj => hs _ (k5 i hi j hj)) (fun i j hi hj hij => by
      rcases (show i = 0 ∧ j = 1 ∨ i = 1 ∧ j = 0 by omega) with ⟨rfl, rfl⟩ | ⟨rfl, rfl⟩
      · exact Or.inr (hs _ k6)
      · exact Or.inl (hs _ k6)) hA
  refine ⟨adK, adV, fun sa hsa => ⟨⟨ty_byt, ⟨fun i hi => ?_, fun i j hi hj e => hS.2 i j hi hj (by rw [← (hsa i hi).1, ← (hsa j hj).1]; exact e)⟩⟩, ?_, ?_, ?_, ?_⟩⟩
  · show va_O "java/lang/String" (sa i) _ s s.heap ∧ va_OF "java/lang/String" "coder" "B" (.int 0) (sa i) _ s s.heap ∧ va_OF "java/lang/String" "value" "[B" (.ref (sa (i + 2))) (sa i) _ s s.heap ∧ va_T .byte (sa (i + 2)) ([11, 160].getD i 0) (fun j => .int ((ty_byt.getD i []).getD j 0)) _ s s.heap
    rw [(hsa i hi).1, (hsa i hi).2]
    exact hS.1 i hi
  · rw [(hsa 0 (by omega)).1]
    exact vk_R.of (A := #[Value.ref b]) (hts _ (List.mem_of_getElem? (i := 674) (by decide +kernel))) (hE 0 (by omega))
  · rw [(hsa 1 (by omega)).1]
    exact vk_R.of (A := #[Value.ref b]) (hts _ (List.mem_of_getElem? (i := 626) (by decide +kernel))) (hE 1 (by omega))
  · exact va_Zof (hts _ (List.mem_of_getElem? (i := 636) (by decide +kernel))) (hts _ (List.mem_of_getElem? (i := 124) (by decide +kernel))) (va_eqt (hs _ k7)) hA
  · exact va_Zqof (hts _ (List.mem_of_getElem? (i := 644) (by decide +kernel))) (hts _ (List.mem_of_getElem? (i := 126) (by decide +kernel))) (hs _ k8) hA
