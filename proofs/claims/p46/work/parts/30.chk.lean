/-! A checker: states with ints as linear terms over named ints, ranges, side conditions (terms that are 0 at most), what is known of cells; cells are of kinds, and each kind's fields and rows keep to their ranges at every time. -/
abbrev ty_t : Type := Int × List (Nat × Int)
abbrev ty_E : Type := Nat × List (Nat × Int × Int) × List ty_t
abbrev ty_V : Type := (ty_t ⊕ ty_t) ⊕ ((Nat × ty_t) ⊕ ((ty_t × ty_t) ⊕ (Nat ⊕ Unit)))
abbrev ty_L : Type := List (Nat × ty_V)
abbrev ty_K : Type := List (Nat × ty_t × ty_t × ty_V)
abbrev ty_S : Type := List ex_P × ty_L × List ty_V × ty_K
abbrev ty_F : Type := (Int × Int) ⊕ (Unit ⊕ Nat)
abbrev ty_C : Type := (Nat × List ty_F) ⊕ (Nat × Nat × ty_F)
abbrev ty_M : Type := List (Nat × Option Nat)
abbrev ty_i (t : ty_t) : ty_V := .inl (.inl t)
abbrev ty_j (t : ty_t) : ty_V := .inl (.inr t)
abbrev ty_r (k : Nat) (t : ty_t) : ty_V := .inr (.inl (k, t))
abbrev ty_c (s t : ty_t) : ty_V := .inr (.inr (.inl (s, t)))
abbrev ty_x (n : Nat) : ty_V := .inr (.inr (.inr (.inl n)))
abbrev ty_z : ty_V := .inr (.inr (.inr (.inr ())))
def ty_nn (x : Int) : Bool := match x with
  | .ofNat _ => true
  | .negSucc _ => false
def ty_le (x y : Int) : Bool := ty_nn (y - x)
def ty_0 (x : Int) : Bool := match x with
  | .ofNat n => Nat.beq n 0
  | .negSucc _ => false
/-- a number is worked out before it is handed on -/
noncomputable def ty_fc {α : Type} (x : Int) (f : Int → α) : α := match x with
  | .ofNat n => Nat.rec (motive := fun _ => α) (f (.ofNat 0)) (fun m _ => f (.ofNat (m + 1))) n
  | .negSucc n => Nat.rec (motive := fun _ => α) (f (.negSucc 0)) (fun m _ => f (.negSucc (m + 1))) n
abbrev ty_k (c : Int) : ty_t := (c, [])
abbrev ty_s (i : Nat) : ty_t := (0, [(i, 1)])
noncomputable def ty_ins (i : Nat) (a : Int) (l : List (Nat × Int)) : List (Nat × Int) := List.rec (motive := fun _ => List (Nat × Int)) [(i, a)] (fun q t ih => bif Nat.beq q.1 i then ty_fc (q.2 + a) (fun b => bif ty_0 b then t else (i, b) :: t) else q :: ih) l
noncomputable def ty_adl (k : Int) (l r : List (Nat × Int)) : List (Nat × Int) := List.rec (motive := fun _ => List (Nat × Int)) l (fun q _ ih => ty_ins q.1 (k * q.2) ih) r
/-- t + k u -/
noncomputable def ty_add (t u : ty_t) (k : Int) : ty_t := ty_fc (t.1 + k * u.1) (fun c => (c, ty_adl k t.2 u.2))
noncomputable def ty_pl (t : ty_t) (c : Int) : ty_t := ty_fc (t.1 + c) (fun d => (d, t.2))
noncomputable def ty_iv (l : List (Nat × Int × Int)) (i : Nat) : Int × Int := List.rec (motive := fun _ => Int × Int) (-9223372036854775808, 9223372036854775807) (fun q _ ih => bif Nat.beq q.1 i then q.2 else ih) l
noncomputable def ty_hi (e : ty_E) (t : ty_t) : Int := List.rec (motive := fun _ => Int) t.1 (fun q _ ih => ih + (bif ty_nn q.2 then q.2 * (ty_iv e.2.1 q.1).2 else q.2 * (ty_iv e.2.1 q.1).1)) t.2
noncomputable def ty_lo (e : ty_E) (t : ty_t) : Int := List.rec (motive := fun _ => Int) t.1 (fun q _ ih => ih + (bif ty_nn q.2 then q.2 * (ty_iv e.2.1 q.1).1 else q.2 * (ty_iv e.2.1 q.1).2)) t.2
/-- a side condition that can help: an int of it stands in the term with the same sign -/
noncomputable def ty_sh (t c : List (Nat × Int)) : Bool := ex_any (fun q => ex_any (fun r => Nat.beq q.1 r.1 && (bif ty_nn q.2 then ty_nn r.2 else !(ty_nn r.2))) c) t
noncomputable def ty_e1 (e : ty_E) (u : ty_t) : Bool := ty_nn (-(ty_hi e u)) || ex_any (fun c => ty_sh u.2 c.2 && ty_nn (-(ty_hi e (ty_add u c (-1))))) e.2.2
/-- a term is 0 at most: by its range, or with one or two side conditions taken off -/
noncomputable def ty_ent (e : ty_E) (t : ty_t) : Bool := ty_nn (-(ty_hi e t)) || ex_any (fun c => ty_sh t.2 c.2 && ty_e1 e (ty_add t c (-1))) e.2.2
noncomputable def ty_in (e : ty_E) (t : ty_t) (l h : Int) : Bool := ty_ent e (ty_add (ty_k l) t (-1)) && ty_ent e (ty_pl t (-h))
def ty_two (l : List (Nat × Int)) : Bool := match l with
  | _ :: _ :: _ => true
  | _ => false
/-- ranges narrowed: w is what they were, L the least that the term may be -/
noncomputable def ty_nar (w : List (Nat × Int × Int)) (L : Int) (l : List (Nat × Int)) : Option (List (Nat × Int × Int)) := List.rec (motive := fun _ => Option (List (Nat × Int × Int))) (some w) (fun q _ ih => match ih with
  | none => none
  | some v => bif ty_le 1 q.2 then ty_fc ((ty_iv w q.1).1 + (-L) / q.2) (fun h => bif ty_le h ((ty_iv v q.1).2) then (bif ty_le (ty_iv v q.1).1 h then some ((q.1, (ty_iv v q.1).1, h) :: v) else none) else some v)
    else bif ty_le q.2 (-1) then ty_fc ((ty_iv w q.1).2 - (-L) / (-q.2)) (fun l' => bif ty_le ((ty_iv v q.1).1) l' then (bif ty_le l' (ty_iv v q.1).2 then some ((q.1, l', (ty_iv v q.1).2) :: v) else none) else some v)
    else some v) l
/-- d is 0 at most from here on; none: it can't be -/
noncomputable def ty_rf (e : ty_E) (d : ty_t) : Option ty_E := ty_fc (ty_lo e d) (fun L => bif ty_le 1 L then none else bif ty_nn (-(ty_hi e d)) then some e else bif ty_ent e (ty_add (ty_k 1) d (-1)) then none else (match ty_nar e.2.1 L d.2 with
  | none => none
  | some v => some (e.1, v, bif ty_two d.2 then d :: e.2.2 else e.2.2)))
noncomputable def ty_rl (e : ty_E) (d : ty_t) : List ty_E := match ty_rf e d with
  | none => []
  | some e' => [e']
noncomputable def ty_rl2 (e : ty_E) (d d' : ty_t) : List ty_E := match ty_rf e d with
  | none => []
  | some e' => ty_rl e' d'
/-- what follows where a compare is so, and where it is not -/
noncomputable def ty_br (c : ClassFile.Cond) (e : ty_E) (a b : ty_t) : List ty_E × List ty_E := match c with
  | .lt => (ty_rl e (ty_pl (ty_add a b (-1)) 1), ty_rl e (ty_add b a (-1)))
  | .ge => (ty_rl e (ty_add b a (-1)), ty_rl e (ty_pl (ty_add a b (-1)) 1))
  | .gt => (ty_rl e (ty_pl (ty_add b a (-1)) 1), ty_rl e (ty_add a b (-1)))
  | .le => (ty_rl e (ty_add a b (-1)), ty_rl e (ty_pl (ty_add b a (-1)) 1))
  | .eq => (ty_rl2 e (ty_add a b (-1)) (ty_add b a (-1)), ex_app (ty_rl e (ty_pl (ty_add a b (-1)) 1)) (ty_rl e (ty_pl (ty_add b a (-1)) 1)))
  | .ne => (ex_app (ty_rl e (ty_pl (ty_add a b (-1)) 1)) (ty_rl e (ty_pl (ty_add b a (-1)) 1)), ty_rl2 e (ty_add a b (-1)) (ty_add b a (-1)))
/-- side conditions held against the ranges once more -/
noncomputable def ty_prop (cs : List ty_t) (e : ty_E) : Option ty_E := List.rec (motive := fun _ => ty_E → Option ty_E) (fun e => some e) (fun c _ ih e => bif ty_le 1 (ty_lo e c) then none else bif ty_nn (-(ty_hi e c)) then ih e else (match ty_nar e.2.1 (ty_lo e c) c.2 with
  | none => none
  | some v => ih (e.1, v, e.2.2))) cs e
/-- a new named int -/
noncomputable def ty_fr (e : ty_E) (l h : Int) (cs : List ty_t) : ty_E := ty_fc l (fun l => ty_fc h (fun h => (e.1 + 1, (e.1, l, h) :: e.2.1, ex_app cs e.2.2)))
abbrev ty_MIN : Int := -2147483648
abbrev ty_MAX : Int := 2147483647
noncomputable def ty_full (e : ty_E) : ty_E × ty_t := (ty_fr e ty_MIN ty_MAX [], ty_s e.1)
noncomputable def ty_cst (e : ty_E) (t : ty_t) : Option Int := ty_fc (ty_lo e t) (fun l => bif ty_le (ty_hi e t) l then some l else none)
/-- an int with few values in a term -/
noncomputable def ty_few (w : Int) (e : ty_E) (t : ty_t) : Option Nat := List.rec (motive := fun _ => Option Nat) none (fun q _ ih => ty_fc ((ty_iv e.2.1 q.1).2 - (ty_iv e.2.1 q.1).1) (fun d => bif ty_le 1 d && ty_le d w then some q.1 else ih)) t.2
/-- a term that is an int, or a new one -/
noncomputable def ty_ok (e : ty_E) (t : ty_t) : ty_E × ty_t := bif ty_le ty_MIN (ty_lo e t) && ty_le (ty_hi e t) ty_MAX then (e, t) else ty_full e
abbrev ty_R : Type := Nat ⊕ (ty_t ⊕ (ty_E × ty_t))
abbrev ty_rv (x : ty_E × ty_t) : Option ty_R := some (.inr (.inr x))
def ty_wr (z : Int) : Int := (z + 2147483648) % 4294967296 - 2147483648
noncomputable def ty_new (e : ty_E) (l h : Int) : Option ty_R := ty_rv (ty_fr e l h [], ty_s e.1)
noncomputable def ty_cs (e : ty_E) (a : ty_t) : List ty_t := match a.2 with
  | [] => []
  | _ :: _ => [ty_add (ty_s e.1) a (-1)]
def ty_mn (a b : Int) : Int := bif ty_le a b then a else b
def ty_mx (a b : Int) : Int := bif ty_le a b then b else a
def ty_pw (h : Int) : Int := match h with
  | .ofNat n => bif Nat.beq n 0 then 0 else Int.ofNat (2 ^ (Nat.log2 n + 1) - 1)
  | .negSucc _ => 0
/-- a mask of ones -/
noncomputable def ty_ones (y : Int) : Bool := ex_any (fun k => ty_0 (y - (2 ^ k - 1))) [1, 2, 3, 4, 5, 6, 7, 8]
noncomputable def ty_a_add (e : ty_E) (a b : ty_t) : Option ty_R := ty_rv (ty_ok e (ty_add a b 1))
noncomputable def ty_a_sub (e : ty_E) (a b : ty_t) : Option ty_R := match ty_cst e a, ty_cst e b with
  | some x, some y => ty_rv (e, ty_k (ty_wr (x - y)))
  | none, some y => bif ty_0 (y - 1) && ty_le (ty_lo e a) ty_MIN && ty_le (ty_hi e a) (-1) then some (.inr (.inl (ty_pl a 2147483647))) else ty_rv (ty_ok e (ty_add a b (-1)))
  | _, _ => ty_rv (ty_ok e (ty_add a b (-1)))
noncomputable def ty_a_mul (e : ty_E) (a b : ty_t) : Option ty_R := match ty_cst e a with
  | some x => ty_rv (ty_ok e (ty_add (ty_k 0) b x))
  | none => (match ty_cst e b with
    | some y => ty_rv (ty_ok e (ty_add (ty_k 0) a y))
    | none => (match ty_few 8 e a with
      | some i => some (.inl i)
      | none => (match ty_few 8 e b with
        | some i => some (.inl i)
        | none => ty_rv (ty_full e))))
noncomputable def ty_a_div (e : ty_E) (a b : ty_t) : Option ty_R := match ty_cst e b with
  | some y => bif ty_le 1 y then (bif ty_nn (ty_lo e a) then ty_rv (ty_fr e (ty_lo e a / y) (ty_hi e a / y) [ty_add (ty_add (ty_k 0) (ty_s e.1) y) a (-1), ty_pl (ty_add a (ty_s e.1) (-y)) (1 - y)], ty_s e.1) else ty_rv (ty_full e)) else bif ty_le y (-1) then ty_rv (ty_full e) else none
  | none => (match ty_few 8 e b with
    | some i => some (.inl i)
    | none => bif ty_le 1 (ty_lo e b) || ty_le (ty_hi e b) (-1) then ty_rv (ty_full e) else none)
noncomputable def ty_a_rem (e : ty_E) (a b : ty_t) : Option ty_R := match ty_cst e b with
  | some y => bif ty_le 1 y then (bif ty_nn (ty_lo e a) then ty_new e 0 (ty_mn (y - 1) (ty_hi e a)) else ty_rv (ty_full e)) else bif ty_le y (-1) then ty_rv (ty_full e) else none
  | none => (match ty_few 8 e b with
    | some i => some (.inl i)
    | none => bif ty_le 1 (ty_lo e b) then (bif ty_nn (ty_lo e a) then ty_rv (ty_fr e 0 (ty_hi e b - 1) [ty_pl (ty_add (ty_s e.1) b (-1)) 1], ty_s e.1) else ty_rv (ty_full e)) else bif ty_le (ty_hi e b) (-1) then ty_rv (ty_full e) else none)
noncomputable def ty_a_and1 (e : ty_E) (a b : ty_t) : Option ty_R := bif ty_nn (ty_lo e a) then (bif ty_nn (ty_lo e b) then ty_rv (ty_fr e 0 (ty_mn (ty_hi e a) (ty_hi e b)) (ex_app (ty_cs e a) (ty_cs e b)), ty_s e.1) else ty_new e 0 (ty_hi e a)) else bif ty_nn (ty_lo e b) then ty_new e 0 (ty_hi e b) else bif ty_le (ty_hi e a) (-1) && ty_le (ty_hi e b) (-1) then ty_rv (ty_fr e ty_MIN (ty_mn (ty_hi e a) (ty_hi e b)) (ex_app (ty_cs e a) (ty_cs e b)), ty_s e.1) else ty_rv (ty_full e)
noncomputable def ty_a_and (e : ty_E) (a b : ty_t) : Option ty_R := match ty_cst e b with
  | some y => bif ty_ones y && ty_le (-(y + 1)) (ty_lo e a) && ty_le (ty_hi e a) y then (bif ty_nn (ty_lo e a) then ty_rv (e, a) else bif ty_le (ty_hi e a) (-1) then ty_rv (e, ty_pl a (y + 1)) else some (.inr (.inl a))) else ty_a_and1 e a b
  | none => ty_a_and1 e a b
noncomputable def ty_a_or (e : ty_E) (a b : ty_t) : Option ty_R := bif ty_nn (ty_lo e a) && ty_nn (ty_lo e b) then ty_new e 0 (ty_mx (ty_pw (ty_hi e a)) (ty_pw (ty_hi e b))) else ty_rv (ty_full e)
noncomputable def ty_a_shl (e : ty_E) (a b : ty_t) : Option ty_R := match ty_cst e a with
  | some x => bif ty_0 (x - 1) && ty_nn (ty_lo e b) && ty_le (ty_hi e b) 30 then ty_new e (2 ^ (ty_lo e b).toNat) (2 ^ (ty_hi e b).toNat) else ty_rv (ty_full e)
  | none => ty_rv (ty_full e)
noncomputable def ty_a_shr (e : ty_E) (a b : ty_t) : Option ty_R := match ty_cst e b with
  | some y => bif ty_nn y && ty_le y 31 && ty_nn (ty_lo e a) then ty_new e (ty_lo e a / 2 ^ y.toNat) (ty_hi e a / 2 ^ y.toNat) else ty_rv (ty_full e)
  | none => ty_rv (ty_full e)
/-- an int from 0 to 31 that is cut into its values -/
noncomputable def ty_t31 (e : ty_E) (a : ty_t) : Option Nat := match a.2 with
  | [(i, _)] => bif ty_0 (ty_iv e.2.1 i).1 && ty_0 ((ty_iv e.2.1 i).2 - 31) then some i else none
  | _ => none
noncomputable def ty_b_and (e : ty_E) (a b : ty_t) : Option ty_R := match ty_cst e a, ty_cst e b with
  | some (.ofNat x), some (.ofNat y) => ty_rv (e, ty_k (Int.ofNat (Nat.land x y)))
  | _, _ => ty_a_and e a b
noncomputable def ty_b_or (e : ty_E) (a b : ty_t) : Option ty_R := match ty_cst e a, ty_cst e b with
  | some (.ofNat x), some (.ofNat y) => ty_rv (e, ty_k (Int.ofNat (Nat.lor x y)))
  | none, some _ => (match ty_t31 e a with
    | some i => some (.inl i)
    | none => ty_a_or e a b)
  | _, _ => ty_a_or e a b
noncomputable def ty_b_shr (e : ty_E) (a b : ty_t) : Option ty_R := match ty_cst e b with
  | some _ => (match ty_t31 e a with
    | some i => some (.inl i)
    | none => ty_a_shr e a b)
  | none => ty_a_shr e a b
noncomputable def ty_ar (o : Instr) (e : ty_E) (a b : ty_t) : Option ty_R := match o with
  | .iadd => ty_a_add e a b
  | .isub => ty_a_sub e a b
  | .imul => ty_a_mul e a b
  | .idiv => ty_a_div e a b
  | .irem => ty_a_rem e a b
  | .iand => ty_b_and e a b
  | .ior => ty_b_or e a b
  | .ixor => ty_a_or e a b
  | .ishl => ty_a_shl e a b
  | .ishr => ty_b_shr e a b
  | .iushr => ty_rv (ty_full e)
  | _ => none
