theorem ex_opt_eq (o : Instr) (ho : o = .iadd ∨ o = .isub ∨ o = .imul ∨ o = .iand ∨ o = .ior ∨ o = .ixor ∨ o = .ishl ∨ o = .ishr ∨ o = .idiv ∨ o = .irem) (en : ex_E) (a b : ex_V) : ex_opt (ex_tag o) en a b = ex_op o en a b := by
  unfold ex_opt ex_op
  rcases ho with rfl | rfl | rfl | rfl | rfl | rfl | rfl | rfl | rfl | rfl <;> (cases ex_cst en a <;> cases ex_cst en b <;> rfl)
theorem ex_bin2_eq (q : ex_P) (ho : q.2.1 = .iadd ∨ q.2.1 = .isub ∨ q.2.1 = .imul ∨ q.2.1 = .iand ∨ q.2.1 = .ior ∨ q.2.1 = .ixor ∨ q.2.1 = .ishl ∨ q.2.1 = .ishr ∨ q.2.1 = .idiv ∨ q.2.1 = .irem) (r : List ex_P) (en : ex_E) (lv : ex_L) (st : List ex_V) (h : ex_H) (n cc ss : Nat) : ex_bin2 q r en lv st h n cc ss = ex_bin q r en lv st h n cc ss := by
  unfold ex_bin2 ex_bin
  split
  · rw [ex_opt_eq _ ho]
  · rfl
theorem ex_step2_eq (pr : List ex_P) (isl : Bool) (L mL : Nat) (cap : Nat × Nat) (df : Nat → List ex_V) (en : ex_E) (q : ex_P) (r : List ex_P) (lv : ex_L) (st : List ex_V) (h : ex_H) (n cc ss : Nat) : ex_step2 pr isl L mL cap df en q r lv st h n cc ss = ex_step pr isl L mL cap df en q r lv st h n cc ss := by
  obtain ⟨pc, ins, len, a1, a2, a3, ts⟩ := q
  cases ins with
  | iadd => exact ex_bin2_eq _ (Or.inl rfl) _ _ _ _ _ _ _ _
  | isub => exact ex_bin2_eq _ (Or.inr (Or.inl rfl)) _ _ _ _ _ _ _ _
  | imul => exact ex_bin2_eq _ (Or.inr (Or.inr (Or.inl rfl))) _ _ _ _ _ _ _ _
  | iand => exact ex_bin2_eq _ (Or.inr (Or.inr (Or.inr (Or.inl rfl)))) _ _ _ _ _ _ _ _
  | ior => exact ex_bin2_eq _ (Or.inr (Or.inr (Or.inr (Or.inr (Or.inl rfl))))) _ _ _ _ _ _ _ _
  | ixor => exact ex_bin2_eq _ (Or.inr (Or.inr (Or.inr (Or.inr (Or.inr (Or.inl rfl)))))) _ _ _ _ _ _ _ _
  | ishl => exact ex_bin2_eq _ (Or.inr (Or.inr (Or.inr (Or.inr (Or.inr (Or.inr (Or.inl rfl))))))) _ _ _ _ _ _ _ _
  | ishr => exact ex_bin2_eq _ (Or.inr (Or.inr (Or.inr (Or.inr (Or.inr (Or.inr (Or.inr (Or.inl rfl)))))))) _ _ _ _ _ _ _ _
  | idiv => exact ex_bin2_eq _ (Or.inr (Or.inr (Or.inr (Or.inr (Or.inr (Or.inr (Or.inr (Or.inr (Or.inl rfl))))))))) _ _ _ _ _ _ _ _
  | irem => exact ex_bin2_eq _ (Or.inr (Or.inr (Or.inr (Or.inr (Or.inr (Or.inr (Or.inr (Or.inr (Or.inr rfl))))))))) _ _ _ _ _ _ _ _
  | _ => rfl
