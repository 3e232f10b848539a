theorem ex_zall : ∀ (i : Nat) (x : ex_M × ex_I × (Nat × Nat × Nat × Nat)), ex_zl[i]? = some x → ex_zb ex_mi x = true := by
  intro i x hx
  have hlt : i < 25 := by
    have h1 := (List.getElem?_eq_some_iff.mp hx).1
    have h2 : ex_zl.length = 25 := by decide +kernel
    omega
  have key : ∀ a : Nat, a ≤ i → i < a + 1 → ex_every (ex_zb ex_mi) ((ex_zl.drop a).take 1) = true → ex_zb ex_mi x = true := fun a h1 h2 h3 => ex_every_ok h3 x (List.mem_of_getElem? (i := i - a) (by rw [List.getElem?_take_of_lt (by omega), List.getElem?_drop, show a + (i - a) = i by omega]; exact hx))
  rcases (show i / 1 = 0 ∨ i / 1 = 1 ∨ i / 1 = 2 ∨ i / 1 = 3 ∨ i / 1 = 4 ∨ i / 1 = 5 ∨ i / 1 = 6 ∨ i / 1 = 7 ∨ i / 1 = 8 ∨ i / 1 = 9 ∨ i / 1 = 10 ∨ i / 1 = 11 ∨ i / 1 = 12 ∨ i / 1 = 13 ∨ i / 1 = 14 ∨ i / 1 = 15 ∨ i / 1 = 16 ∨ i / 1 = 17 ∨ i / 1 = 18 ∨ i / 1 = 19 ∨ i / 1 = 20 ∨ i / 1 = 21 ∨ i / 1 = 22 ∨ i / 1 = 23 ∨ i / 1 = 24 by omega) with h | h | h | h | h | h | h | h | h | h | h | h | h | h | h | h | h | h | h | h | h | h | h | h | h
  · exact key 0 (by omega) (by omega) ex_z0
  · exact key 1 (by omega) (by omega) ex_z1
  · exact key 2 (by omega) (by omega) ex_z2
  · exact key 3 (by omega) (by omega) ex_z3
  · exact key 4 (by omega) (by omega) ex_z4
  · exact key 5 (by omega) (by omega) ex_z5
  · exact key 6 (by omega) (by omega) ex_z6
  · exact key 7 (by omega) (by omega) ex_z7
  · exact key 8 (by omega) (by omega) ex_z8
  · exact key 9 (by omega) (by omega) ex_z9
  · exact key 10 (by omega) (by omega) ex_z10
  · exact key 11 (by omega) (by omega) ex_z11
  · exact key 12 (by omega) (by omega) ex_z12
  · exact key 13 (by omega) (by omega) ex_z13
  · exact key 14 (by omega) (by omega) ex_z14
  · exact key 15 (by omega) (by omega) ex_z15
  · exact key 16 (by omega) (by omega) ex_z16
  · exact key 17 (by omega) (by omega) ex_z17
  · exact key 18 (by omega) (by omega) ex_z18
  · exact key 19 (by omega) (by omega) ex_z19
  · exact key 20 (by omega) (by omega) ex_z20
  · exact key 21 (by omega) (by omega) ex_z21
  · exact key 22 (by omega) (by omega) ex_z22
  · exact key 23 (by omega) (by omega) ex_z23
  · exact key 24 (by omega) (by omega) ex_z24
