/-! what each instruction is held against -/
noncomputable def ty_every {α : Type} (f : α → Bool) (l : List α) : Bool := List.rec (motive := fun _ => Bool) true (fun a _ ih => f a && ih) l
theorem ty_every_t {α : Type} {f : α → Bool} : ∀ {l : List α}, ty_every f l = true → ∀ a ∈ l, f a = true
  | [], _, a, ha => by cases ha
  | x :: t, h, a, ha => by
    obtain ⟨h1, h2⟩ := ex_and (show (f x && ty_every f t) = true from h)
    rcases List.mem_cons.mp ha with rfl | ha
    · exact h1
    · exact ty_every_t h2 a ha
noncomputable def ty_prs (l : List Nat) : List (Nat × Nat) := match l with
  | [a, b] => [(a, b)]
  | [a, b, c, d] => [(a, b), (c, d)]
  | [a, b, c, d, e, f, g, h, i, j, k, m] => [(a, b), (c, d), (e, f), (g, h), (i, j), (k, m)]
  | _ => []
def ty_tk (ty : Nat) (d : String) : Bool := match parseFieldDescriptor d with
  | some .long => Nat.beq ty 3
  | _ => ex_tk ty d
noncomputable def ty_wm (own : String) (ix : Nat) (ts : List Nat) (y : MethodName) : Bool := match ts with
  | [wi] => ex_wd wi (Cond.methodLink own ix y)
  | _ => false
theorem ty_wm_ok {own : String} {ix : Nat} {ts : List Nat} {y : MethodName} (h : ty_wm own ix ts y = true) : Cond.methodLink own ix y ∈ ex_tb := by
  unfold ty_wm at h
  split at h
  · exact ex_wd_ok h
  · cases h
/-- the two texts: where they are named -/
def ty_sk (n : Nat) : String × Nat := bif Nat.beq n 0 then ("HatchLights$Tokens", 59) else ("HatchLights$Tokens", 73)
noncomputable def ty_wf (own : String) (ix : Nat) (ts : List Nat) (C n d : String) : Bool := match ts with
  | [wi] => ex_wd wi (Cond.fieldLink own ix C n d)
  | _ => false
theorem ty_wf_ok {own : String} {ix : Nat} {ts : List Nat} {C n d : String} (h : ty_wf own ix ts C n d = true) : Cond.fieldLink own ix C n d ∈ ex_tb := by
  unfold ty_wf at h
  split at h
  · exact ex_wd_ok h
  · cases h
noncomputable def ty_pk (own nm : String) (q : ex_P) : Bool := match q with
  | (pc, ins, len, a1, a2, a3, ts) => (match ins with
    | .ldc2_w i => Nat.beq len 3 && decide ((Int64.ofNat a1).toInt = (a1 : Int)) && ex_wd a2 (Cond.constantLong own i (Int64.ofNat a1))
    | .lconst k => Nat.beq len 1 && Nat.beq k.val a1 && decide ((Int64.ofNat a1).toInt = (a1 : Int))
    | .lload_n k => Nat.beq len 1 && Nat.beq k.val a1
    | .lload k => Nat.beq len 2 && Nat.beq k a1
    | .lstore_n k => Nat.beq len 1 && Nat.beq k.val a1
    | .lstore k => Nat.beq len 2 && Nat.beq k a1
    | .iushr => Nat.beq len 1
    | .i2c => Nat.beq len 1
    | .i2l => Nat.beq len 1
    | .l2i => Nat.beq len 1
    | .ladd => Nat.beq len 1
    | .lmul => Nat.beq len 1
    | .lor => Nat.beq len 1
    | .lshl => Nat.beq len 1
    | .lcmp => Nat.beq len 1
    | .laload => Nat.beq len 1
    | .lookupswitch df ps => decide ((pc : Int) + df = (a1 : Int)) && decide (ps.toList.map (fun z => (z.1 + 2147483648, (pc : Int) + z.2)) = (ty_prs ts).map (fun t => ((t.1 : Int), (t.2 : Int)))) && (ps.toList.zip (ps.toList.drop 1)).all (fun (a, next) => a.1 < next.1)
    | .putfield ix => Nat.beq len 3 && (match vwCl[a1]?, ts with
      | some rc, [wi] => Nat.blt a2 rc.2.2 && ex_wd wi (Cond.fieldLink own ix (rc.2.1 a2).1 (rc.2.1 a2).2.1 (rc.2.1 a2).2.2.1) && !(rc.2.1 a2).2.2.2 && ty_tk a3 (rc.2.1 a2).2.2.1
      | _, _ => false)
    | .ldc i => bif Nat.beq a3 9 then Nat.beq len 2 && decide (ty_sk a1 = (own, i)) else ex_pk own nm (pc, ins, len, a1, a2, a3, ts)
    | .getfield ix => bif Nat.beq a1 99 then Nat.beq len 3 && (bif Nat.beq a2 0 then ty_wf own ix ts "java/lang/String" "value" "[B" else ty_wf own ix ts "java/lang/String" "coder" "B") else ex_pk own nm (pc, ins, len, a1, a2, a3, ts)
    | .getstatic ix => Nat.beq len 3 && (bif Nat.beq a1 0 then ty_wf own ix ts "java/lang/String" "COMPACT_STRINGS" "Z" else ty_wf own ix ts "jdk/internal/util/Preconditions" "SIOOBE_FORMATTER" "Ljava/util/function/BiFunction;")
    | .invokestatic ix => bif Nat.beq a3 2 then Nat.beq len 3 && ty_wm own ix ts Lib.Math.max.name else bif Nat.beq a3 3 then Nat.beq len 3 && ty_wm own ix ts Lib.Math.min.name else ex_pk own nm (pc, ins, len, a1, a2, a3, ts)
    | _ => ex_pk own nm (pc, ins, len, a1, a2, a3, ts))
def ty_call (q : ex_P) : Bool := match q.2.1 with
  | .invokestatic _ => Nat.beq q.2.2.2.2.2.1 0
  | .invokevirtual _ => true
  | _ => false
def ty_end (q : ex_P) : Bool := match q.2.1 with
  | .ireturn => true
  | .areturn => true
  | .lreturn => true
  | .return_ => true
  | _ => false
def ty_ek (z : Nat) (ret : Option FieldType) (q : ex_P) : Bool := match q.2.1, ret with
  | .ireturn, some .char => Nat.beq q.2.2.1 1 && Nat.beq z 2
  | .ireturn, some .byte => Nat.beq q.2.2.1 1 && Nat.beq z 3
  | .lreturn, some .long => Nat.beq q.2.2.1 1
  | _, _ => ex_ek z ret q
/-- calls; a text's own methods have the number 99 for their class -/
noncomputable def ty_ck (mi : Nat → Option ex_I) (own : String) (q : ex_P) : Bool := bif Nat.beq q.2.2.2.2.2.1 99 then Nat.beq q.2.2.1 3 && (match mi q.2.2.2.1, q.2.2.2.2.2.2, q.2.1 with
  | some I, [wi, _], .invokevirtual ix => ex_wd wi (Cond.methodLink own ix I.1) && (Nat.beq I.2.2.2.1 0 && (Nat.beq q.2.2.2.2.1 (I.2.2.2.2 + 1) && decide (I.1.cls = "java/lang/String")))
  | _, _, _ => false) else ex_ck mi own q
theorem ty_ck_ok {mi : Nat → Option ex_I} {own : String} {q : ex_P} {I : ex_I} (hI : mi q.2.2.2.1 = some I) (hck : ty_ck mi own q = true) : (q.2.2.2.2.2.1 = 99 ∧ q.2.2.1 = 3 ∧ ∃ ix, q.2.1 = .invokevirtual ix ∧ Cond.methodLink own ix I.1 ∈ ex_tb ∧ I.2.2.2.1 = 0 ∧ q.2.2.2.2.1 = I.2.2.2.2 + 1 ∧ I.1.cls = "java/lang/String") ∨ (q.2.2.2.2.2.1 ≠ 99 ∧ ex_ck mi own q = true) := by
  rcases ex_bif (P := fun z => z = true) hck with ⟨h1, h2⟩ | ⟨h1, h2⟩
  · obtain ⟨h2, h3⟩ := ex_and h2
    split at h3
    · rename_i I' wi ne ix hI' _ hin
      rw [hI] at hI'
      injection hI' with hI'
      subst hI'
      obtain ⟨g1, h3⟩ := ex_and h3
      obtain ⟨g2, h3⟩ := ex_and h3
      obtain ⟨g3, g4⟩ := ex_and h3
      exact Or.inl ⟨ex_beq h1, ex_beq h2, ix, hin, ex_wd_ok g1, ex_beq g2, ex_beq g3, of_decide_eq_true g4⟩
    · cases h3
  · exact Or.inr ⟨ex_bne h1, h2⟩
noncomputable def ty_qk (mi : Nat → Option ex_I) (own nm : String) (z : Nat) (ret : Option FieldType) (q : ex_P) : Bool := bif ty_end q then ty_ek z ret q else bif ty_call q then ty_ck mi own q else ty_pk own nm q
def ty_PO (mi : Nat → Option ex_I) (own nm : String) (cd : ByteArray) (z : Nat) (ret : Option FieldType) (pr : List ex_P) : Prop := ∀ q ∈ pr, decode cd q.1 = .ok (q.2.1, q.2.2.1) ∧ ty_qk mi own nm z ret q = true
def ty_MS (I : ex_I) (nL : Nat) : Prop := plainName I.1.cls = true ∧ Cond.code I.1 I.2.1 nL I.2.2.1 ∈ ex_tb ∧ nL ≤ 40 ∧ Cond.initialized I.1.cls ∈ ex_tb ∧ (I.1.cls ≠ "java/lang/invoke/MethodHandle" ∧ I.1.cls ≠ "java/lang/invoke/VarHandle" ∧ (parseMethodDescriptor I.1.desc).map (fun d => d.parameters.length) = some I.2.2.2.2) ∧ ((I.2.2.2.1 = 0 → Cond.instanceMethod I.1 ∈ ex_tb ∧ Cond.selects I.1.cls I.1 I.1 ∈ ex_tb) ∧ (I.2.2.2.1 = 1 → Cond.static I.1 ∈ ex_tb))
def ty_MO (mi : Nat → Option ex_I) (M : ex_M) (I : ex_I) : Prop := ty_MS I M.2.1 ∧ (∃ q r, M.1 = q :: r ∧ q.1 = 0) ∧ ty_PO mi I.1.cls I.1.name I.2.1 M.2.2.1 I.2.2.1 M.1
