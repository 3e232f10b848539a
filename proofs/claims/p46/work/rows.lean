section
/-! A checked executor: states with ints known, named or held in a range; cells by number; every step is shown to keep what it says of the machine. An int x is written as ex_u x, its number above the least int. -/
abbrev ex_V : Type := (Nat ⊕ (Nat ⊕ (Nat × Nat))) ⊕ (Option Nat ⊕ (Int64 ⊕ Unit))
abbrev ex_C : Type := (Nat × List ex_V) ⊕ (Nat × Nat × List (Nat × ex_V))
abbrev ex_E : Type := List (Nat × Nat)
abbrev ex_P : Type := Nat × Instr × Nat × Nat × Nat × Nat × List Nat
abbrev ex_L : Type := List (Nat × ex_V)
abbrev ex_H : Type := List (List ex_C)
abbrev ex_S : Type := List ex_P × ex_L × List ex_V × ex_H × Nat × Nat × Nat
abbrev ex_M : Type := List ex_P × Nat × Nat × Nat × Nat
abbrev ex_k (n : Nat) : ex_V := .inl (.inl n)
abbrev ex_v (i : Nat) : ex_V := .inl (.inr (.inl i))
abbrev ex_r (a b : Nat) : ex_V := .inl (.inr (.inr (a, b)))
abbrev ex_a (r : Option Nat) : ex_V := .inr (.inl r)
abbrev ex_j (x : Int64) : ex_V := .inr (.inr (.inl x))
abbrev ex_z : ex_V := .inr (.inr (.inr ()))
abbrev ex_full : ex_V := ex_r 0 4294967295
noncomputable def ex_nth {α : Type} (l : List α) : Nat → Option α := List.rec (motive := fun _ => Nat → Option α) (fun _ => none) (fun a _ ih k => Nat.rec (motive := fun _ => Option α) (some a) (fun k' _ => ih k') k) l
noncomputable def ex_set {α : Type} (l : List α) : Nat → α → List α := List.rec (motive := fun _ => Nat → α → List α) (fun _ _ => []) (fun a t ih k v => Nat.rec (motive := fun _ => List α) (v :: t) (fun k' _ => a :: ih k' v) k) l
noncomputable def ex_lk {α : Type} (l : List (Nat × α)) (i : Nat) : Option α := List.rec (motive := fun _ => Option α) none (fun q _ ih => bif Nat.beq q.1 i then some q.2 else ih) l
noncomputable def ex_ovset (l : List (Nat × ex_V)) (i : Nat) (v : ex_V) : List (Nat × ex_V) := List.rec (motive := fun _ => List (Nat × ex_V)) [(i, v)] (fun q t ih => bif Nat.beq q.1 i then (i, v) :: t else q :: ih) l
noncomputable def ex_get (h : ex_H) (k : Nat) : Option ex_C := match ex_nth h (k / 32) with
  | some ch => ex_nth ch (k % 32)
  | none => none
noncomputable def ex_put (h : ex_H) (k : Nat) (c : ex_C) : ex_H := match ex_nth h (k / 32) with
  | some ch => ex_set h (k / 32) (ex_set ch (k % 32) c)
  | none => h
noncomputable def ex_len {α : Type} (l : List α) : Nat := List.rec (motive := fun _ => Nat) 0 (fun _ _ ih => ih + 1) l
noncomputable def ex_app {α : Type} (l r : List α) : List α := List.rec (motive := fun _ => List α) r (fun a _ ih => a :: ih) l
noncomputable def ex_push (h : ex_H) (n : Nat) (c : ex_C) : Option ex_H := bif Nat.beq (n % 32) 0 then (bif Nat.beq (ex_len h) (n / 32) then some (ex_app h [[c]]) else none) else (match ex_nth h (n / 32) with
  | some ch => bif Nat.beq (ex_len ch) (n % 32) then some (ex_set h (n / 32) (ex_app ch [c])) else none
  | none => none)
noncomputable def ex_b (en : ex_E) (v : ex_V) : Option (Nat × Nat) := match v with
  | .inl (.inl n) => some (n, n)
  | .inl (.inr (.inl i)) => ex_nth en i
  | .inl (.inr (.inr q)) => some q
  | .inr _ => none
noncomputable def ex_cst (en : ex_E) (v : ex_V) : Option Nat := match ex_b en v with
  | some q => bif Nat.beq q.1 q.2 then some q.1 else none
  | none => none
def ex_mx (a b : Nat) : Nat := bif Nat.ble a b then b else a
def ex_mn (a b : Nat) : Nat := bif Nat.ble a b then a else b
noncomputable def ex_rf (en : ex_E) (v : ex_V) (lo hi : Nat) : Option ex_E := match v with
  | .inl (.inl n) => bif Nat.ble lo n && Nat.ble n hi then some en else none
  | .inl (.inr (.inl i)) => (match ex_nth en i with
    | some q => bif Nat.ble (ex_mx q.1 lo) (ex_mn q.2 hi) then some (ex_set en i (ex_mx q.1 lo, ex_mn q.2 hi)) else none
    | none => some en)
  | .inl (.inr (.inr q)) => bif Nat.ble (ex_mx q.1 lo) (ex_mn q.2 hi) then some en else none
  | .inr _ => some en
noncomputable def ex_2 (en : ex_E) (a : ex_V) (la ha : Nat) (b : ex_V) (lb hb : Nat) : List ex_E := match ex_rf en a la ha with
  | none => []
  | some e => (match ex_rf e b lb hb with
    | none => []
    | some e' => [e'])
noncomputable def ex_1 (en : ex_E) (a : ex_V) (la ha : Nat) : List ex_E := match ex_rf en a la ha with
  | none => []
  | some e => [e]
def ex_same (a b : ex_V) : Bool := match a, b with
  | .inl (.inr (.inl i)), .inl (.inr (.inl j)) => Nat.beq i j
  | _, _ => false
noncomputable def ex_lt (en : ex_E) (a b : ex_V) (qa qb : Nat × Nat) : List ex_E := bif ex_same a b then [] else ex_2 en a 0 (qb.2 - 1) b (qa.1 + 1) 4294967295
noncomputable def ex_ge (en : ex_E) (a b : ex_V) (qa qb : Nat × Nat) : List ex_E := ex_2 en a qb.1 4294967295 b 0 qa.2
noncomputable def ex_eq (en : ex_E) (a b : ex_V) (qa qb : Nat × Nat) : List ex_E := ex_2 en a qb.1 qb.2 b qa.1 qa.2
noncomputable def ex_ne (en : ex_E) (a b : ex_V) (qa qb : Nat × Nat) : List ex_E := bif ex_same a b then [] else
  bif Nat.beq qb.1 qb.2 then ex_app (ex_1 en a 0 (qb.1 - 1)) (ex_1 en a (qb.1 + 1) 4294967295) else
  bif Nat.beq qa.1 qa.2 then ex_app (ex_1 en b 0 (qa.1 - 1)) (ex_1 en b (qa.1 + 1) 4294967295) else [en]
noncomputable def ex_br (c : ClassFile.Cond) (en : ex_E) (a b : ex_V) : Option (List ex_E × List ex_E) := match ex_b en a with
  | none => none
  | some qa => (match ex_b en b with
    | none => none
    | some qb => (match c with
      | .eq => some (ex_eq en a b qa qb, ex_ne en a b qa qb)
      | .ne => some (ex_ne en a b qa qb, ex_eq en a b qa qb)
      | .lt => some (ex_lt en a b qa qb, ex_ge en a b qa qb)
      | .ge => some (ex_ge en a b qa qb, ex_lt en a b qa qb)
      | .gt => some (ex_lt en b a qb qa, ex_ge en b a qb qa)
      | .le => some (ex_ge en b a qb qa, ex_lt en b a qb qa)))
noncomputable def ex_ft (q : ex_P) (r : List ex_P) (en : ex_E) (lv : ex_L) (st : List ex_V) (h : ex_H) (n cc ss : Nat) : Option (List (ex_E × ex_S)) := match r with
  | [] => none
  | q' :: r' => bif Nat.beq q'.1 (q.1 + q.2.2.1) then some [(en, (q' :: r', lv, st, h, n, cc, ss))] else none
noncomputable def ex_jp (pr : List ex_P) (t : Nat) : List ex_P := List.rec (motive := fun _ => List ex_P) [] (fun q r ih => bif Nat.beq q.1 t then q :: r else ih) pr
noncomputable def ex_map {α β : Type} (f : α → β) (l : List α) : List β := List.rec (motive := fun _ => List β) [] (fun a _ ih => f a :: ih) l
def ex_isI (v : ex_V) : Bool := match v with
  | .inl _ => true
  | .inr _ => false
def ex_isR (v : ex_V) : Bool := match v with
  | .inr (.inl _) => true
  | .inr (.inr (.inr _)) => true
  | _ => false
def ex_cat (v : ex_V) : Nat := match v with
  | .inr (.inr (.inl _)) => 2
  | _ => 1
noncomputable def ex_del (lv : ex_L) (i : Nat) : ex_L := List.rec (motive := fun _ => ex_L) [] (fun q _ ih => bif (!(Nat.beq q.1 i) && !(Nat.beq (q.1 + 1) i && Nat.beq (ex_cat q.2) 2)) then q :: ih else ih) lv
/-- an int that may take at most 65 values, by name -/
noncomputable def ex_need (en : ex_E) (v : ex_V) : Option Nat := match v with
  | .inl (.inr (.inl i)) => (match ex_nth en i with
    | some q => bif Nat.ble (q.1 + 1) q.2 && Nat.ble q.2 (q.1 + 64) then some i else none
    | none => none)
  | _ => none
noncomputable def ex_range (n lo : Nat) : List Nat := Nat.rec (motive := fun _ => Nat → List Nat) (fun _ => []) (fun _ ih lo => lo :: ih (lo + 1)) n lo
noncomputable def ex_spl (en : ex_E) (i : Nat) (s : ex_S) : Option (List (ex_E × ex_S)) := match ex_nth en i with
  | some q => some (ex_map (fun x => (ex_set en i (x, x), s)) (ex_range (q.2 - q.1 + 1) q.1))
  | none => none
def ex_t (u : Nat) : Nat := (u + 2147483648) % 4294967296
noncomputable def ex_op (o : Instr) (en : ex_E) (a b : ex_V) : Option ex_V := match ex_cst en a, ex_cst en b with
  | some x, some y => (match o with
    | .iadd => some (ex_k ((x + y + 2147483648) % 4294967296))
    | .isub => some (ex_k ((x + 6442450944 - y) % 4294967296))
    | .imul => some (ex_k (ex_t (ex_t x * ex_t y % 4294967296)))
    | .iand => some (ex_k (ex_t (Nat.land (ex_t x) (ex_t y))))
    | .ior => some (ex_k (ex_t (Nat.lor (ex_t x) (ex_t y))))
    | .ixor => some (ex_k (ex_t (Nat.xor (ex_t x) (ex_t y))))
    | .ishl => bif Nat.beq y 2147483648 then some (ex_k x) else some ex_full
    | .idiv => bif Nat.ble 2147483648 x && Nat.ble 2147483649 y then some (ex_k ((x - 2147483648) / (y - 2147483648) + 2147483648)) else none
    | .irem => bif Nat.ble 2147483648 x && Nat.ble 2147483649 y then some (ex_k ((x - 2147483648) % (y - 2147483648) + 2147483648)) else none
    | .ishr => some ex_full
    | _ => none)
  | none, some y => (match o with
    | .iadd => bif Nat.beq y 2147483648 && ex_isI a then some a else some ex_full
    | .iand => bif Nat.ble 2147483648 y then some (ex_r 2147483648 y) else some ex_full
    | .idiv => none
    | .irem => none
    | _ => some ex_full)
  | some x, none => (match o with
    | .iadd => bif Nat.beq x 2147483648 && ex_isI b then some b else some ex_full
    | .idiv => none
    | .irem => none
    | _ => some ex_full)
  | none, none => (match o with
    | .idiv => none
    | .irem => none
    | _ => some ex_full)
noncomputable def ex_bin (q : ex_P) (r : List ex_P) (en : ex_E) (lv : ex_L) (st : List ex_V) (h : ex_H) (n cc ss : Nat) : Option (List (ex_E × ex_S)) := match st with
  | b :: a :: rest => bif ex_isI a && ex_isI b then (match ex_need en a with
    | some i => ex_spl en i (q :: r, lv, st, h, n, cc, ss)
    | none => (match ex_need en b with
      | some i => ex_spl en i (q :: r, lv, st, h, n, cc, ss)
      | none => (match ex_op q.2.1 en a b with
        | some v => ex_ft q r en lv (v :: rest) h n cc ss
        | none => none))) else none
  | _ => none
noncomputable def ex_ifs (pr : List ex_P) (q : ex_P) (r : List ex_P) (c : ClassFile.Cond) (en : ex_E) (lv : ex_L) (a b : ex_V) (rest : List ex_V) (h : ex_H) (n cc ss : Nat) : Option (List (ex_E × ex_S)) := match ex_br c en a b with
  | none => none
  | some tf => (match tf.2 with
    | [] => some (ex_map (fun e => (e, (ex_jp pr q.2.2.2.1, lv, rest, h, n, cc, ss))) tf.1)
    | f0 :: fs => (match r with
      | [] => none
      | q' :: r' => bif Nat.beq q'.1 (q.1 + q.2.2.1) then some (ex_app (ex_map (fun e => (e, (ex_jp pr q.2.2.2.1, lv, rest, h, n, cc, ss))) tf.1) (ex_map (fun e => (e, (q' :: r', lv, rest, h, n, cc, ss))) (f0 :: fs))) else none))
noncomputable def ex_ld (q : ex_P) (r : List ex_P) (en : ex_E) (lv : ex_L) (st : List ex_V) (h : ex_H) (n cc ss : Nat) (ok : ex_V → Bool) : Option (List (ex_E × ex_S)) := match ex_lk lv q.2.2.2.1 with
  | some v => bif ok v then ex_ft q r en lv (v :: st) h n cc ss else none
  | none => none
noncomputable def ex_st (mL : Nat) (q : ex_P) (r : List ex_P) (en : ex_E) (lv : ex_L) (st : List ex_V) (h : ex_H) (n cc ss : Nat) (ok : ex_V → Bool) : Option (List (ex_E × ex_S)) := match st with
  | v :: rest => bif ok v && Nat.blt q.2.2.2.1 mL then ex_ft q r en ((q.2.2.2.1, v) :: ex_del lv q.2.2.2.1) rest h n cc ss else none
  | [] => none
noncomputable def ex_ov (t : Nat) (ov : List (Nat × ex_V)) (j : Nat) : ex_V := match ex_lk ov j with
  | some v => v
  | none => bif Nat.beq t 2 then ex_j 0 else bif Nat.beq t 4 then ex_a none else ex_k 2147483648
/-- a row's place: what it is split by, or its number -/
noncomputable def ex_ix (en : ex_E) (i : ex_V) (n : Nat) : Option Nat := match ex_cst en i with
  | some u => bif Nat.ble 2147483648 u && Nat.blt (u - 2147483648) n then some (u - 2147483648) else none
  | none => none
noncomputable def ex_ald (isl : Bool) (L : Nat) (ok : Nat → Bool) (q : ex_P) (r : List ex_P) (en : ex_E) (lv : ex_L) (st : List ex_V) (h : ex_H) (n cc ss : Nat) : Option (List (ex_E × ex_S)) := match st with
  | i :: .inr (.inl (some o)) :: rest => (match ex_need en i with
    | some x => ex_spl en x (q :: r, lv, st, h, n, cc, ss)
    | none => (match ex_get h o with
      | some (.inr (t, N, ov)) => (match ex_ix en i N with
        | some j => bif ok t && ex_isI i then ex_ft q r en lv (ex_ov t ov j :: rest) h n cc ss else none
        | none => none)
      | _ => none))
  | i :: .inr (.inr (.inr ())) :: rest => (match ex_ix en i L with
    | some j => bif isl && ok 0 && ex_isI i then ex_ft q r en lv (ex_v j :: rest) h n cc ss else none
    | none => none)
  | _ => none
noncomputable def ex_ast (q : ex_P) (r : List ex_P) (en : ex_E) (lv : ex_L) (st : List ex_V) (h : ex_H) (n cc ss : Nat) (ok : Nat → ex_V → Option ex_V) : Option (List (ex_E × ex_S)) := match st with
  | v :: i :: .inr (.inl (some o)) :: rest => (match ex_need en i with
    | some x => ex_spl en x (q :: r, lv, st, h, n, cc, ss)
    | none => (match ex_get h o with
      | some (.inr (t, N, ov)) => (match ex_ix en i N with
        | some j => (match ok t v with
          | some v' => bif ex_isI i then ex_ft q r en lv rest (ex_put h o (.inr (t, N, ex_ovset ov j v'))) n cc ss else none
          | none => none)
        | none => none)
      | _ => none))
  | _ => none
def ex_oki (t : Nat) (v : ex_V) : Option ex_V := bif Nat.beq t 0 && ex_isI v then some v else none
def ex_okj (t : Nat) (v : ex_V) : Option ex_V := match v with
  | .inr (.inr (.inl x)) => bif Nat.beq t 2 then some v else none
  | _ => none
noncomputable def ex_okb (en : ex_E) (t : Nat) (v : ex_V) : Option ex_V := bif Nat.beq t 1 && ex_isI v then some ex_full else bif Nat.beq t 3 then (match ex_cst en v with
  | some u => bif Nat.beq u 2147483648 || Nat.beq u 2147483649 then some (ex_k u) else none
  | none => none) else none
/-- only objects of class 4 go into rows of references -/
noncomputable def ex_okq (h : ex_H) (t : Nat) (v : ex_V) : Option ex_V := match v with
  | .inr (.inl (some o)) => (match ex_get h o with
    | some (.inl (ci, _)) => bif Nat.beq t 4 && Nat.beq ci 4 then some v else none
    | _ => none)
  | _ => none
noncomputable def ex_gf (q : ex_P) (r : List ex_P) (en : ex_E) (lv : ex_L) (st : List ex_V) (h : ex_H) (n cc ss : Nat) : Option (List (ex_E × ex_S)) := match st with
  | .inr (.inl (some o)) :: rest => (match ex_get h o with
    | some (.inl (ci, fs)) => (match ex_nth fs q.2.2.2.2.1 with
      | some v => bif Nat.beq ci q.2.2.2.1 then ex_ft q r en lv (v :: rest) h n cc ss else none
      | none => none)
    | _ => none)
  | _ => none
noncomputable def ex_okf (en : ex_E) (ty : Nat) (v : ex_V) : Bool := bif Nat.beq ty 0 then ex_isI v else bif Nat.beq ty 1 then (match v with
  | .inr (.inl _) => true
  | _ => false) else bif Nat.beq ty 2 then (match ex_cst en v with
  | some u => Nat.beq u 2147483648 || Nat.beq u 2147483649
  | none => false) else false
noncomputable def ex_pf (q : ex_P) (r : List ex_P) (en : ex_E) (lv : ex_L) (st : List ex_V) (h : ex_H) (n cc ss : Nat) : Option (List (ex_E × ex_S)) := match st with
  | v :: .inr (.inl (some o)) :: rest => (match ex_get h o with
    | some (.inl (ci, fs)) => (match ex_nth fs q.2.2.2.2.1 with
      | some _ => bif Nat.beq ci q.2.2.2.1 && ex_okf en q.2.2.2.2.2.1 v then ex_ft q r en lv rest (ex_put h o (.inl (ci, ex_set fs q.2.2.2.2.1 v))) n cc ss else none
      | none => none)
    | _ => none)
  | _ => none
noncomputable def ex_nw (cap : Nat × Nat) (df : Nat → List ex_V) (q : ex_P) (r : List ex_P) (en : ex_E) (lv : ex_L) (st : List ex_V) (h : ex_H) (n cc ss : Nat) : Option (List (ex_E × ex_S)) := match ex_push h n (.inl (q.2.2.2.1, df q.2.2.2.1)) with
  | some h' => bif Nat.ble (cc + 1) cap.1 && Nat.ble (ss + q.2.2.2.2.1) cap.2 then ex_ft q r en lv (ex_a (some n) :: st) h' (n + 1) (cc + 1) (ss + q.2.2.2.2.1) else none
  | none => none
noncomputable def ex_na (cap : Nat × Nat) (q : ex_P) (r : List ex_P) (en : ex_E) (lv : ex_L) (st : List ex_V) (h : ex_H) (n cc ss : Nat) : Option (List (ex_E × ex_S)) := match st with
  | i :: rest => (match ex_ix en i 100000 with
    | some N => (match ex_push h n (.inr (q.2.2.2.1, N, [])) with
      | some h' => bif ex_isI i && Nat.ble (cc + 1) cap.1 && Nat.ble (ss + N) cap.2 then ex_ft q r en lv (ex_a (some n) :: rest) h' (n + 1) (cc + 1) (ss + N) else none
      | none => none)
    | none => none)
  | _ => none
noncomputable def ex_al (isl : Bool) (L : Nat) (q : ex_P) (r : List ex_P) (en : ex_E) (lv : ex_L) (st : List ex_V) (h : ex_H) (n cc ss : Nat) : Option (List (ex_E × ex_S)) := match st with
  | .inr (.inl (some o)) :: rest => (match ex_get h o with
    | some (.inr (_, N, _)) => bif Nat.ble N 100000 then ex_ft q r en lv (ex_k (N + 2147483648) :: rest) h n cc ss else none
    | _ => none)
  | .inr (.inr (.inr ())) :: rest => bif isl && Nat.ble L 100000 then ex_ft q r en lv (ex_k (L + 2147483648) :: rest) h n cc ss else none
  | _ => none
noncomputable def ex_cp (a b : List (Nat × ex_V)) (t sp dp m : Nat) : List (Nat × ex_V) := Nat.rec (motive := fun _ => List (Nat × ex_V)) b (fun k ih => ex_ovset ih (dp + k) (ex_ov t a (sp + k))) m
noncomputable def ex_acp (q : ex_P) (r : List ex_P) (en : ex_E) (lv : ex_L) (st : List ex_V) (h : ex_H) (n cc ss : Nat) : Option (List (ex_E × ex_S)) := match st with
  | m :: dp :: .inr (.inl (some d)) :: sp :: .inr (.inl (some o)) :: rest => (match ex_get h o, ex_get h d with
    | some (.inr (t, N, ov)), some (.inr (t', N', ov')) => (match ex_ix en m 100000, ex_ix en sp 100000, ex_ix en dp 100000 with
      | some m', some s', some d' => bif Nat.beq t 0 && Nat.beq t' 0 && Nat.ble (s' + m') N && Nat.ble (d' + m') N' && ex_isI m && ex_isI sp && ex_isI dp && Nat.ble (ex_len rest) 4 then ex_ft q r en lv rest (ex_put h d (.inr (t', N', ex_cp ov ov' 0 s' d' m'))) n cc ss else none
      | _, _, _ => none)
    | _, _ => none)
  | _ => none
noncomputable def ex_sw (pr : List ex_P) (q : ex_P) (en : ex_E) (lv : ex_L) (v : ex_V) (rest : List ex_V) (h : ex_H) (n cc ss : Nat) (ts : List Nat) (lo : Nat) : List (ex_E × ex_S) := List.rec (motive := fun _ => Nat → List (ex_E × ex_S)) (fun lo => ex_map (fun e => (e, (ex_jp pr q.2.2.2.1, lv, rest, h, n, cc, ss))) (ex_1 en v lo 4294967295)) (fun t _ ih lo => ex_app (ex_map (fun e => (e, (ex_jp pr t, lv, rest, h, n, cc, ss))) (ex_1 en v lo lo)) (ih (lo + 1))) ts lo
noncomputable def ex_lu (pr : List ex_P) (q : ex_P) (lv : ex_L) (v : ex_V) (rest : List ex_V) (h : ex_H) (n cc ss : Nat) (ts : List Nat) : ex_E → Option (List (ex_E × ex_S)) := fun en => match ts with
  | [k0, t0, k1, t1] => (match ex_b en v with
    | some qa => some (ex_app (ex_map (fun e => (e, (ex_jp pr t0, lv, rest, h, n, cc, ss))) (ex_1 en v k0 k0)) (ex_app (ex_map (fun e => (e, (ex_jp pr t1, lv, rest, h, n, cc, ss))) (ex_1 en v k1 k1)) (bif Nat.beq (k0 + 1) k1 then ex_app (ex_map (fun e => (e, (ex_jp pr q.2.2.2.1, lv, rest, h, n, cc, ss))) (ex_1 en v 0 (k0 - 1))) (ex_map (fun e => (e, (ex_jp pr q.2.2.2.1, lv, rest, h, n, cc, ss))) (ex_1 en v (k1 + 1) 4294967295)) else ex_map (fun e => (e, (ex_jp pr q.2.2.2.1, lv, rest, h, n, cc, ss))) [en])))
    | none => none)
  | _ => none
def ex_bz (t : Nat) : Bool := Nat.beq t 1 || Nat.beq t 3
noncomputable def ex_step (pr : List ex_P) (isl : Bool) (L mL : Nat) (cap : Nat × Nat) (df : Nat → List ex_V) (en : ex_E) (q : ex_P) (r : List ex_P) (lv : ex_L) (st : List ex_V) (h : ex_H) (n cc ss : Nat) : Option (List (ex_E × ex_S)) := match q.2.1 with
  | .iconst _ => ex_ft q r en lv (ex_k q.2.2.2.1 :: st) h n cc ss
  | .bipush _ => ex_ft q r en lv (ex_k q.2.2.2.1 :: st) h n cc ss
  | .sipush _ => ex_ft q r en lv (ex_k q.2.2.2.1 :: st) h n cc ss
  | .ldc _ => ex_ft q r en lv (ex_k q.2.2.2.1 :: st) h n cc ss
  | .ldc_w _ => ex_ft q r en lv (ex_k q.2.2.2.1 :: st) h n cc ss
  | .lconst _ => ex_ft q r en lv (ex_j (Int64.ofNat q.2.2.2.1) :: st) h n cc ss
  | .iload_n _ => ex_ld q r en lv st h n cc ss ex_isI
  | .iload _ => ex_ld q r en lv st h n cc ss ex_isI
  | .aload_n _ => ex_ld q r en lv st h n cc ss ex_isR
  | .aload _ => ex_ld q r en lv st h n cc ss ex_isR
  | .istore_n _ => ex_st mL q r en lv st h n cc ss ex_isI
  | .istore _ => ex_st mL q r en lv st h n cc ss ex_isI
  | .astore_n _ => ex_st mL q r en lv st h n cc ss ex_isR
  | .astore _ => ex_st mL q r en lv st h n cc ss ex_isR
  | .iinc _ _ => (match ex_lk lv q.2.2.2.1 with
    | some v => (match ex_cst en v with
      | some u => bif ex_isI v && Nat.blt q.2.2.2.1 mL then ex_ft q r en ((q.2.2.2.1, ex_k ((u + q.2.2.2.2.1) % 4294967296)) :: ex_del lv q.2.2.2.1) st h n cc ss else none
      | none => none)
    | none => none)
  | .iadd => ex_bin q r en lv st h n cc ss
  | .isub => ex_bin q r en lv st h n cc ss
  | .imul => ex_bin q r en lv st h n cc ss
  | .iand => ex_bin q r en lv st h n cc ss
  | .ior => ex_bin q r en lv st h n cc ss
  | .ixor => ex_bin q r en lv st h n cc ss
  | .ishl => ex_bin q r en lv st h n cc ss
  | .ishr => ex_bin q r en lv st h n cc ss
  | .idiv => ex_bin q r en lv st h n cc ss
  | .irem => ex_bin q r en lv st h n cc ss
  | .i2b => (match st with
    | v :: rest => bif ex_isI v then ex_ft q r en lv (ex_full :: rest) h n cc ss else none
    | [] => none)
  | .dup => (match st with
    | v :: rest => bif Nat.beq (ex_cat v) 1 then ex_ft q r en lv (v :: v :: rest) h n cc ss else none
    | [] => none)
  | .dup2 => (match st with
    | v :: w :: rest => bif Nat.beq (ex_cat v) 1 && Nat.beq (ex_cat w) 1 then ex_ft q r en lv (v :: w :: v :: w :: rest) h n cc ss else none
    | _ => none)
  | .pop => (match st with
    | v :: rest => bif Nat.beq (ex_cat v) 1 then ex_ft q r en lv rest h n cc ss else none
    | [] => none)
  | .goto _ => some [(en, (ex_jp pr q.2.2.2.1, lv, st, h, n, cc, ss))]
  | .ifCond c _ => (match st with
    | a :: rest => ex_ifs pr q r c en lv a (ex_k 2147483648) rest h n cc ss
    | [] => none)
  | .if_icmp c _ => (match st with
    | b :: a :: rest => ex_ifs pr q r c en lv a b rest h n cc ss
    | _ => none)
  | .tableswitch _ _ _ _ => (match st with
    | v :: rest => bif ex_isI v then some (ex_app (ex_map (fun e => (e, (ex_jp pr q.2.2.2.1, lv, rest, h, n, cc, ss))) (ex_1 en v 0 (q.2.2.2.2.1 - 1))) (ex_sw pr q en lv v rest h n cc ss q.2.2.2.2.2.2 q.2.2.2.2.1)) else none
    | [] => none)
  | .lookupswitch _ _ => (match st with
    | v :: rest => bif ex_isI v then ex_lu pr q lv v rest h n cc ss q.2.2.2.2.2.2 en else none
    | [] => none)
  | .getfield _ => ex_gf q r en lv st h n cc ss
  | .putfield _ => ex_pf q r en lv st h n cc ss
  | .new _ => ex_nw cap df q r en lv st h n cc ss
  | .newarray _ => ex_na cap q r en lv st h n cc ss
  | .anewarray _ => ex_na cap q r en lv st h n cc ss
  | .arraylength => ex_al isl L q r en lv st h n cc ss
  | .iaload => ex_ald isl L (fun t => Nat.beq t 0) q r en lv st h n cc ss
  | .baload => ex_ald false L ex_bz q r en lv st h n cc ss
  | .aaload => ex_ald false L (fun t => Nat.beq t 4) q r en lv st h n cc ss
  | .iastore => ex_ast q r en lv st h n cc ss ex_oki
  | .bastore => ex_ast q r en lv st h n cc ss (ex_okb en)
  | .lastore => ex_ast q r en lv st h n cc ss ex_okj
  | .aastore => ex_ast q r en lv st h n cc ss (ex_okq h)
  | .invokestatic _ => ex_acp q r en lv st h n cc ss
  | .invokespecial _ => (match st with
    | .inr (.inl (some _)) :: rest => bif Nat.ble (ex_len rest) 4 then ex_ft q r en lv rest h n cc ss else none
    | _ => none)
  | _ => none
/-- a number for each instruction, so that the way is found by compares of numbers -/
def ex_tag (o : Instr) : Nat := match o with
  | .aload_n _ => 0
  | .iload_n _ => 1
  | .getfield _ => 2
  | .iconst _ => 3
  | .iload _ => 4
  | .iaload => 5
  | .if_icmp c _ => 6
  | .iinc _ _ => 7
  | .goto _ => 8
  | .ifCond c _ => 9
  | .bipush _ => 10
  | .iadd => 11
  | .putfield _ => 12
  | .iastore => 13
  | .istore_n _ => 14
  | .istore _ => 15
  | .sipush _ => 16
  | .dup => 17
  | .ldc _ => 18
  | .ldc_w _ => 19
  | .lconst _ => 20
  | .aload _ => 21
  | .astore_n _ => 22
  | .astore _ => 23
  | .isub => 24
  | .imul => 25
  | .iand => 26
  | .ior => 27
  | .ixor => 28
  | .ishl => 29
  | .ishr => 30
  | .idiv => 31
  | .irem => 32
  | .i2b => 33
  | .dup2 => 34
  | .pop => 35
  | .tableswitch _ _ _ _ => 36
  | .lookupswitch _ _ => 37
  | .new _ => 38
  | .newarray _ => 39
  | .anewarray _ => 40
  | .arraylength => 41
  | .baload => 42
  | .aaload => 43
  | .bastore => 44
  | .lastore => 45
  | .aastore => 46
  | .invokestatic _ => 47
  | .invokespecial _ => 48
  | _ => 99
/-- the same by numbers -/
noncomputable def ex_opt (t : Nat) (en : ex_E) (a b : ex_V) : Option ex_V := match ex_cst en a, ex_cst en b with
  | some x, some y => bif Nat.beq t 11 then some (ex_k ((x + y + 2147483648) % 4294967296)) else bif Nat.beq t 24 then some (ex_k ((x + 6442450944 - y) % 4294967296)) else bif Nat.beq t 25 then some (ex_k (ex_t (ex_t x * ex_t y % 4294967296))) else bif Nat.beq t 32 then (bif Nat.ble 2147483648 x && Nat.ble 2147483649 y then some (ex_k ((x - 2147483648) % (y - 2147483648) + 2147483648)) else none) else bif Nat.beq t 26 then some (ex_k (ex_t (Nat.land (ex_t x) (ex_t y)))) else bif Nat.beq t 27 then some (ex_k (ex_t (Nat.lor (ex_t x) (ex_t y)))) else bif Nat.beq t 28 then some (ex_k (ex_t (Nat.xor (ex_t x) (ex_t y)))) else bif Nat.beq t 29 then (bif Nat.beq y 2147483648 then some (ex_k x) else some ex_full) else bif Nat.beq t 31 then (bif Nat.ble 2147483648 x && Nat.ble 2147483649 y then some (ex_k ((x - 2147483648) / (y - 2147483648) + 2147483648)) else none) else bif Nat.beq t 30 then some ex_full else none
  | none, some y => bif Nat.beq t 11 then (bif Nat.beq y 2147483648 && ex_isI a then some a else some ex_full) else bif Nat.beq t 26 then (bif Nat.ble 2147483648 y then some (ex_r 2147483648 y) else some ex_full) else bif Nat.beq t 31 then none else bif Nat.beq t 32 then none else some ex_full
  | some x, none => bif Nat.beq t 11 then (bif Nat.beq x 2147483648 && ex_isI b then some b else some ex_full) else bif Nat.beq t 31 then none else bif Nat.beq t 32 then none else some ex_full
  | none, none => bif Nat.beq t 31 then none else bif Nat.beq t 32 then none else some ex_full
noncomputable def ex_bin2 (q : ex_P) (r : List ex_P) (en : ex_E) (lv : ex_L) (st : List ex_V) (h : ex_H) (n cc ss : Nat) : Option (List (ex_E × ex_S)) := match st with
  | b :: a :: rest => bif ex_isI a && ex_isI b then (match ex_need en a with
    | some i => ex_spl en i (q :: r, lv, st, h, n, cc, ss)
    | none => (match ex_need en b with
      | some i => ex_spl en i (q :: r, lv, st, h, n, cc, ss)
      | none => (match ex_opt (ex_tag q.2.1) en a b with
        | some v => ex_ft q r en lv (v :: rest) h n cc ss
        | none => none))) else none
  | _ => none
def ex_cnd (o : Instr) : ClassFile.Cond := match o with
  | .ifCond c _ => c
  | .if_icmp c _ => c
  | _ => .eq
noncomputable def ex_s_if1 (pr : List ex_P) (q : ex_P) (r : List ex_P) (en : ex_E) (lv : ex_L) (st : List ex_V) (h : ex_H) (n cc ss : Nat) : Option (List (ex_E × ex_S)) := match st with
  | a :: rest => ex_ifs pr q r (ex_cnd q.2.1) en lv a (ex_k 2147483648) rest h n cc ss
  | [] => none
noncomputable def ex_s_if2 (pr : List ex_P) (q : ex_P) (r : List ex_P) (en : ex_E) (lv : ex_L) (st : List ex_V) (h : ex_H) (n cc ss : Nat) : Option (List (ex_E × ex_S)) := match st with
  | b :: a :: rest => ex_ifs pr q r (ex_cnd q.2.1) en lv a b rest h n cc ss
  | _ => none
noncomputable def ex_s_iinc (pr : List ex_P) (isl : Bool) (L mL : Nat) (cap : Nat × Nat) (df : Nat → List ex_V) (en : ex_E) (q : ex_P) (r : List ex_P) (lv : ex_L) (st : List ex_V) (h : ex_H) (n cc ss : Nat) : Option (List (ex_E × ex_S)) := match ex_lk lv q.2.2.2.1 with
    | some v => (match ex_cst en v with
      | some u => bif ex_isI v && Nat.blt q.2.2.2.1 mL then ex_ft q r en ((q.2.2.2.1, ex_k ((u + q.2.2.2.2.1) % 4294967296)) :: ex_del lv q.2.2.2.1) st h n cc ss else none
      | none => none)
    | none => none
noncomputable def ex_s_dup (pr : List ex_P) (isl : Bool) (L mL : Nat) (cap : Nat × Nat) (df : Nat → List ex_V) (en : ex_E) (q : ex_P) (r : List ex_P) (lv : ex_L) (st : List ex_V) (h : ex_H) (n cc ss : Nat) : Option (List (ex_E × ex_S)) := match st with
    | v :: rest => bif Nat.beq (ex_cat v) 1 then ex_ft q r en lv (v :: v :: rest) h n cc ss else none
    | [] => none
noncomputable def ex_s_i2b (pr : List ex_P) (isl : Bool) (L mL : Nat) (cap : Nat × Nat) (df : Nat → List ex_V) (en : ex_E) (q : ex_P) (r : List ex_P) (lv : ex_L) (st : List ex_V) (h : ex_H) (n cc ss : Nat) : Option (List (ex_E × ex_S)) := match st with
    | v :: rest => bif ex_isI v then ex_ft q r en lv (ex_full :: rest) h n cc ss else none
    | [] => none
noncomputable def ex_s_dup2 (pr : List ex_P) (isl : Bool) (L mL : Nat) (cap : Nat × Nat) (df : Nat → List ex_V) (en : ex_E) (q : ex_P) (r : List ex_P) (lv : ex_L) (st : List ex_V) (h : ex_H) (n cc ss : Nat) : Option (List (ex_E × ex_S)) := match st with
    | v :: w :: rest => bif Nat.beq (ex_cat v) 1 && Nat.beq (ex_cat w) 1 then ex_ft q r en lv (v :: w :: v :: w :: rest) h n cc ss else none
    | _ => none
noncomputable def ex_s_pop (pr : List ex_P) (isl : Bool) (L mL : Nat) (cap : Nat × Nat) (df : Nat → List ex_V) (en : ex_E) (q : ex_P) (r : List ex_P) (lv : ex_L) (st : List ex_V) (h : ex_H) (n cc ss : Nat) : Option (List (ex_E × ex_S)) := match st with
    | v :: rest => bif Nat.beq (ex_cat v) 1 then ex_ft q r en lv rest h n cc ss else none
    | [] => none
noncomputable def ex_s_tableswitch (pr : List ex_P) (isl : Bool) (L mL : Nat) (cap : Nat × Nat) (df : Nat → List ex_V) (en : ex_E) (q : ex_P) (r : List ex_P) (lv : ex_L) (st : List ex_V) (h : ex_H) (n cc ss : Nat) : Option (List (ex_E × ex_S)) := match st with
    | v :: rest => bif ex_isI v then some (ex_app (ex_map (fun e => (e, (ex_jp pr q.2.2.2.1, lv, rest, h, n, cc, ss))) (ex_1 en v 0 (q.2.2.2.2.1 - 1))) (ex_sw pr q en lv v rest h n cc ss q.2.2.2.2.2.2 q.2.2.2.2.1)) else none
    | [] => none
noncomputable def ex_s_lookupswitch (pr : List ex_P) (isl : Bool) (L mL : Nat) (cap : Nat × Nat) (df : Nat → List ex_V) (en : ex_E) (q : ex_P) (r : List ex_P) (lv : ex_L) (st : List ex_V) (h : ex_H) (n cc ss : Nat) : Option (List (ex_E × ex_S)) := match st with
    | v :: rest => bif ex_isI v then ex_lu pr q lv v rest h n cc ss q.2.2.2.2.2.2 en else none
    | [] => none
noncomputable def ex_s_invokespecial (pr : List ex_P) (isl : Bool) (L mL : Nat) (cap : Nat × Nat) (df : Nat → List ex_V) (en : ex_E) (q : ex_P) (r : List ex_P) (lv : ex_L) (st : List ex_V) (h : ex_H) (n cc ss : Nat) : Option (List (ex_E × ex_S)) := match st with
    | .inr (.inl (some _)) :: rest => bif Nat.ble (ex_len rest) 4 then ex_ft q r en lv rest h n cc ss else none
    | _ => none
noncomputable def ex_go (n_ : Nat) (pr : List ex_P) (isl : Bool) (L mL : Nat) (cap : Nat × Nat) (df : Nat → List ex_V) (en : ex_E) (q : ex_P) (r : List ex_P) (lv : ex_L) (st : List ex_V) (h : ex_H) (n cc ss : Nat) : Option (List (ex_E × ex_S)) := bif Nat.ble n_ 48 then (bif Nat.ble n_ 15 then (bif Nat.ble n_ 4 then (bif Nat.ble n_ 1 then (bif Nat.ble n_ 0 then (ex_ld q r en lv st h n cc ss ex_isR) else (ex_ld q r en lv st h n cc ss ex_isI)) else (bif Nat.ble n_ 2 then (ex_gf q r en lv st h n cc ss) else (bif Nat.ble n_ 3 then (ex_ft q r en lv (ex_k q.2.2.2.1 :: st) h n cc ss) else (ex_ld q r en lv st h n cc ss ex_isI)))) else (bif Nat.ble n_ 7 then (bif Nat.ble n_ 5 then (ex_ald isl L (fun t => Nat.beq t 0) q r en lv st h n cc ss) else (bif Nat.ble n_ 6 then (ex_s_if2 pr q r en lv st h n cc ss) else (ex_s_iinc pr isl L mL cap df en q r lv st h n cc ss))) else (bif Nat.ble n_ 9 then (bif Nat.ble n_ 8 then (some [(en, (ex_jp pr q.2.2.2.1, lv, st, h, n, cc, ss))]) else (ex_s_if1 pr q r en lv st h n cc ss)) else (bif Nat.ble n_ 12 then (bif Nat.ble n_ 10 then (ex_ft q r en lv (ex_k q.2.2.2.1 :: st) h n cc ss) else (bif Nat.ble n_ 11 then (ex_bin2 q r en lv st h n cc ss) else (ex_pf q r en lv st h n cc ss))) else (bif Nat.ble n_ 13 then (ex_ast q r en lv st h n cc ss ex_oki) else (bif Nat.ble n_ 14 then (ex_st mL q r en lv st h n cc ss ex_isI) else (ex_st mL q r en lv st h n cc ss ex_isI))))))) else (bif Nat.ble n_ 26 then (bif Nat.ble n_ 18 then (bif Nat.ble n_ 16 then (ex_ft q r en lv (ex_k q.2.2.2.1 :: st) h n cc ss) else (bif Nat.ble n_ 17 then (ex_s_dup pr isl L mL cap df en q r lv st h n cc ss) else (ex_ft q r en lv (ex_k q.2.2.2.1 :: st) h n cc ss))) else (bif Nat.ble n_ 20 then (bif Nat.ble n_ 19 then (ex_ft q r en lv (ex_k q.2.2.2.1 :: st) h n cc ss) else (ex_ft q r en lv (ex_j (Int64.ofNat q.2.2.2.1) :: st) h n cc ss)) else (bif Nat.ble n_ 23 then (bif Nat.ble n_ 21 then (ex_ld q r en lv st h n cc ss ex_isR) else (bif Nat.ble n_ 22 then (ex_st mL q r en lv st h n cc ss ex_isR) else (ex_st mL q r en lv st h n cc ss ex_isR))) else (bif Nat.ble n_ 24 then (ex_bin2 q r en lv st h n cc ss) else (bif Nat.ble n_ 25 then (ex_bin2 q r en lv st h n cc ss) else (ex_bin2 q r en lv st h n cc ss)))))) else (bif Nat.ble n_ 33 then (bif Nat.ble n_ 28 then (bif Nat.ble n_ 27 then (ex_bin2 q r en lv st h n cc ss) else (ex_bin2 q r en lv st h n cc ss)) else (bif Nat.ble n_ 30 then (bif Nat.ble n_ 29 then (ex_bin2 q r en lv st h n cc ss) else (ex_bin2 q r en lv st h n cc ss)) else (bif Nat.ble n_ 31 then (ex_bin2 q r en lv st h n cc ss) else (bif Nat.ble n_ 32 then (ex_bin2 q r en lv st h n cc ss) else (ex_s_i2b pr isl L mL cap df en q r lv st h n cc ss))))) else (bif Nat.ble n_ 38 then (bif Nat.ble n_ 35 then (bif Nat.ble n_ 34 then (ex_s_dup2 pr isl L mL cap df en q r lv st h n cc ss) else (ex_s_pop pr isl L mL cap df en q r lv st h n cc ss)) else (bif Nat.ble n_ 36 then (ex_s_tableswitch pr isl L mL cap df en q r lv st h n cc ss) else (bif Nat.ble n_ 37 then (ex_s_lookupswitch pr isl L mL cap df en q r lv st h n cc ss) else (ex_nw cap df q r en lv st h n cc ss)))) else (bif Nat.ble n_ 41 then (bif Nat.ble n_ 39 then (ex_na cap q r en lv st h n cc ss) else (bif Nat.ble n_ 40 then (ex_na cap q r en lv st h n cc ss) else (ex_al isl L q r en lv st h n cc ss))) else (bif Nat.ble n_ 43 then (bif Nat.ble n_ 42 then (ex_ald false L ex_bz q r en lv st h n cc ss) else (ex_ald false L (fun t => Nat.beq t 4) q r en lv st h n cc ss)) else (bif Nat.ble n_ 45 then (bif Nat.ble n_ 44 then (ex_ast q r en lv st h n cc ss (ex_okb en)) else (ex_ast q r en lv st h n cc ss ex_okj)) else (bif Nat.ble n_ 46 then (ex_ast q r en lv st h n cc ss (ex_okq h)) else (bif Nat.ble n_ 47 then (ex_acp q r en lv st h n cc ss) else (ex_s_invokespecial pr isl L mL cap df en q r lv st h n cc ss)))))))))) else none
noncomputable def ex_step2 (pr : List ex_P) (isl : Bool) (L mL : Nat) (cap : Nat × Nat) (df : Nat → List ex_V) (en : ex_E) (q : ex_P) (r : List ex_P) (lv : ex_L) (st : List ex_V) (h : ex_H) (n cc ss : Nat) : Option (List (ex_E × ex_S)) := ex_go (ex_tag q.2.1) pr isl L mL cap df en q r lv st h n cc ss
/-- a call's first number: the method, its second: how many values it takes, its third: 0 for a call, 1 for a copy of rows or Object's constructor -/
def ex_call (q : ex_P) : Bool := match q.2.1 with
  | .invokestatic _ => Nat.beq q.2.2.2.2.2.1 0
  | .invokespecial _ => Nat.beq q.2.2.2.2.2.1 0
  | .invokevirtual _ => true
  | _ => false
def ex_end (q : ex_P) : Bool := match q.2.1 with
  | .ireturn => true
  | .areturn => true
  | .return_ => true
  | _ => false
noncomputable def ex_take (n : Nat) : List ex_V → List ex_V → Option (List ex_V × List ex_V) := Nat.rec (motive := fun _ => List ex_V → List ex_V → Option (List ex_V × List ex_V)) (fun acc st => some (acc, st)) (fun _ ih acc st => match st with
  | v :: rest => bif Nat.beq (ex_cat v) 1 then ih (v :: acc) rest else none
  | [] => none) n
noncomputable def ex_args (l : List ex_V) (i : Nat) : ex_L := List.rec (motive := fun _ => Nat → ex_L) (fun _ => []) (fun v _ ih i => (i, v) :: ih (i + 1)) l i
/-- an answer that is a boolean is 0 or 1 -/
noncomputable def ex_zok (en : ex_E) (z : Nat) (v : ex_V) : Bool := bif Nat.beq z 1 then (match ex_cst en v with
  | some u => Nat.beq u 2147483648 || Nat.beq u 2147483649
  | none => false) else true
abbrev ex_A : Type := ex_E × List ex_V × ex_H × Nat
/-- what a method leaves: its answer, and the cells -/
noncomputable def ex_ret (z mc ms : Nat) (o : ex_E × ex_S) : Option ex_A := match o with
  | (e, (q :: _, _, st, h, n, c', s')) => bif Nat.ble c' mc && Nat.ble s' ms then (match q.2.1, st with
    | .ireturn, [v] => bif ex_isI v && ex_zok e z v then some (e, [v], h, n) else none
    | .areturn, [v] => bif ex_isR v then some (e, [v], h, n) else none
    | .return_, [] => some (e, [], h, n)
    | _, _ => none) else none
  | _ => none
noncomputable def ex_rets (z mc ms : Nat) (l : List (ex_E × ex_S)) : Option (List ex_A) := List.rec (motive := fun _ => Option (List ex_A)) (some []) (fun a _ ih => match ex_ret z mc ms a with
  | none => none
  | some x => (match ih with
    | none => none
    | some y => some (x :: y))) l
/-- answers that lie side by side become one: untrusted, then held against each -/
def ex_veq (a b : ex_V) : Bool := match a, b with
  | .inl (.inl x), .inl (.inl y) => Nat.beq x y
  | .inl (.inr (.inl x)), .inl (.inr (.inl y)) => Nat.beq x y
  | .inl (.inr (.inr x)), .inl (.inr (.inr y)) => Nat.beq x.1 y.1 && Nat.beq x.2 y.2
  | .inr (.inl none), .inr (.inl none) => true
  | .inr (.inl (some x)), .inr (.inl (some y)) => Nat.beq x y
  | .inr (.inr (.inl x)), .inr (.inr (.inl y)) => decide (x = y)
  | _, _ => false
noncomputable def ex_lq {α : Type} (f : α → α → Bool) (l : List α) : List α → Bool := List.rec (motive := fun _ => List α → Bool) (fun r => match r with
  | [] => true
  | _ :: _ => false) (fun a _ ih r => match r with
  | [] => false
  | b :: t => f a b && ih t) l
def ex_pq (a b : Nat × ex_V) : Bool := Nat.beq a.1 b.1 && ex_veq a.2 b.2
noncomputable def ex_cq (a b : ex_C) : Bool := match a, b with
  | .inl x, .inl y => Nat.beq x.1 y.1 && ex_lq ex_veq x.2 y.2
  | .inr x, .inr y => Nat.beq x.1 y.1 && Nat.beq x.2.1 y.2.1 && ex_lq ex_pq x.2.2 y.2.2
  | _, _ => false
noncomputable def ex_hb (a b : List ex_C) : Bool := match b with
  | [] => true
  | _ :: _ => ex_lq ex_cq a b
/-- the second's cells are the first's -/
noncomputable def ex_hq (l : ex_H) : ex_H → Bool := List.rec (motive := fun _ => ex_H → Bool) (fun r => match r with
  | [] => true
  | _ :: _ => false) (fun a _ ih r => match r with
  | [] => true
  | b :: t => ex_hb a b && ih t) l
noncomputable def ex_eq' (l : ex_E) : ex_E → Bool := List.rec (motive := fun _ => ex_E → Bool) (fun r => match r with
  | [] => true
  | _ :: _ => false) (fun a _ ih r => match r with
  | [] => true
  | b :: t => Nat.ble b.1 a.1 && Nat.ble a.2 b.2 && ih t) l
noncomputable def ex_le (a m : ex_A) : Bool := ex_eq' a.1 m.1 && ex_lq ex_veq a.2.1 m.2.1 && Nat.beq a.2.2.2 m.2.2.2 && ex_hq a.2.2.1 m.2.2.1
noncomputable def ex_any {α : Type} (f : α → Bool) (l : List α) : Bool := List.rec (motive := fun _ => Bool) false (fun a _ ih => f a || ih) l
noncomputable def ex_every {α : Type} (f : α → Bool) (l : List α) : Bool := List.rec (motive := fun _ => Bool) true (fun a _ ih => f a && ih) l
/-- two ranges side by side -/
noncomputable def ex_hull (l : ex_E) : ex_E → ex_E := List.rec (motive := fun _ => ex_E → ex_E) (fun _ => []) (fun a _ ih r => match r with
  | [] => []
  | b :: t => (bif Nat.beq (a.2 + 1) b.1 then (a.1, b.2) else a) :: ih t) l
noncomputable def ex_next (l : ex_E) : ex_E → Nat := List.rec (motive := fun _ => ex_E → Nat) (fun _ => 0) (fun a _ ih r => match r with
  | [] => 9
  | b :: t => (bif Nat.beq a.1 b.1 && Nat.beq a.2 b.2 then 0 else bif Nat.beq (a.2 + 1) b.1 then 1 else 9) + ih t) l
noncomputable def ex_drop (k : Nat) (h : ex_H) : ex_H := List.rec (motive := fun _ => Nat → ex_H) (fun _ => []) (fun a _ ih k => Nat.rec (motive := fun _ => ex_H) (a :: ih 0) (fun k' _ => [] :: ih k') k) h k
noncomputable def ex_grp (k : Nat) (l : List ex_A) : List ex_A := List.rec (motive := fun _ => List ex_A) [] (fun a _ ih => match ih with
  | [] => [(a.1, a.2.1, ex_drop k a.2.2.1, a.2.2.2)]
  | m :: t => bif ex_lq ex_veq a.2.1 m.2.1 && Nat.ble (ex_next a.1 m.1) 1 && ex_hq a.2.2.1 m.2.2.1 then (ex_hull a.1 m.1, m.2.1, m.2.2.1, m.2.2.2) :: t else (a.1, a.2.1, ex_drop k a.2.2.1, a.2.2.2) :: m :: t) l
noncomputable def ex_mg (b : Bool) (l : List ex_A) : Option (List ex_A) := bif b && Nat.ble 2 (ex_len l) then (bif ex_every (fun a => ex_any (ex_le a) (ex_grp 15 l)) l then some (ex_grp 15 l) else none) else some l
noncomputable def ex_bk (r : List ex_P) (lv : ex_L) (rest : List ex_V) (cc ss : Nat) (a : ex_A) : ex_E × ex_S := (a.1, (r, lv, ex_app a.2.1 rest, a.2.2.1, a.2.2.2, cc, ss))
noncomputable def ex_alls (f : ex_E × ex_S → Option (List (ex_E × ex_S))) (l : List (ex_E × ex_S)) : Option (List (ex_E × ex_S)) := List.rec (motive := fun _ => Option (List (ex_E × ex_S))) (some []) (fun a _ ih => match f a with
  | none => none
  | some x => (match ih with
    | none => none
    | some y => some (ex_app x y))) l
/-- one state is gone on with as it is -/
noncomputable def ex_all (f : ex_E × ex_S → Option (List (ex_E × ex_S))) (l : List (ex_E × ex_S)) : Option (List (ex_E × ex_S)) := match l with
  | [a] => f a
  | l => ex_alls f l
/-- a receiver is an object of the class that the third number says; a new one's constructor has one -/
noncomputable def ex_rcv (q : ex_P) (h : ex_H) (a : List ex_V) : Bool := match q.2.1, a with
  | .invokevirtual _, .inr (.inl (some o)) :: _ => (match ex_get h o with
    | some (.inl oc) => Nat.beq oc.1 q.2.2.2.2.2.1
    | _ => false)
  | .invokespecial _, .inr (.inl (some _)) :: _ => true
  | .invokestatic _, _ => true
  | _, _ => false
abbrev ex_F : Type := Nat → Nat → Bool → ex_M → ex_E → ex_S → Option (List (ex_E × ex_S))
def ex_nx3 (q : ex_P) (r : List ex_P) : Bool := match r with
  | [] => false
  | q' :: _ => Nat.beq q'.1 (q.1 + 3)
/-- a call, and what comes behind it -/
noncomputable def ex_cl (run : ex_F) (mt : Nat → Option ex_M) (stop d : Nat) (isl : Bool) (M : ex_M) (en : ex_E) (q : ex_P) (r : List ex_P) (lv : ex_L) (st : List ex_V) (h : ex_H) (n cc ss : Nat) : Option (List (ex_E × ex_S)) := match d with
  | 0 => none
  | d' + 1 => (match mt q.2.2.2.1 with
    | none => none
    | some M' => (match ex_take q.2.2.2.2.1 [] st with
      | none => none
      | some ar => bif Nat.ble (ex_len ar.2) 4 && Nat.ble (cc + M'.2.2.2.1) M.2.2.2.1 && Nat.ble (ss + M'.2.2.2.2) M.2.2.2.2 && ex_nx3 q r && ex_rcv q h ar.1 then (match run 1000000 d' false M' en (M'.1, ex_args ar.1 0, [], h, n, 0, 0) with
        | none => none
        | some outs => (match ex_rets M'.2.2.1 M'.2.2.2.1 M'.2.2.2.2 outs with
          | none => none
          | some l => (match ex_mg isl l with
            | none => none
            | some l' => ex_all (fun o => run stop (d' + 1) isl M o.1 o.2) (ex_map (ex_bk r lv ar.2 (cc + M'.2.2.2.1) (ss + M'.2.2.2.2)) l')))) else none))
noncomputable def ex_sp (run : ex_F) (df : Nat → List ex_V) (L stop d : Nat) (isl : Bool) (M : ex_M) (en : ex_E) (q : ex_P) (r : List ex_P) (lv : ex_L) (st : List ex_V) (h : ex_H) (n cc ss : Nat) : Option (List (ex_E × ex_S)) := match ex_step2 M.1 isl L M.2.1 (M.2.2.2.1, M.2.2.2.2) df en q r lv st h n cc ss with
  | none => none
  | some l => ex_all (fun o => run stop d isl M o.1 o.2) l
/-- the run: up to returns, or (in the law's own frame) up to the place 'stop' -/
noncomputable def ex_run (mt : Nat → Option ex_M) (df : Nat → List ex_V) (L : Nat) (f : Nat) : ex_F := Nat.rec (motive := fun _ => ex_F) (fun _ _ _ _ _ _ => none) (fun _ ih stop d isl M en s => match s with
  | ([], _) => none
  | (q :: r, lv, st, h, n, cc, ss) =>
    bif ex_end q || Nat.ble stop q.1 then some [(en, s)] else
    bif ex_call q then ex_cl ih mt stop d isl M en q r lv st h n cc ss else ex_sp ih df L stop d isl M en q r lv st h n cc ss) f
end
section
def ex_u (x : Int32) : Nat := (x.toBitVec.toNat + 2147483648) % 4294967296
theorem ex_u_lt (x : Int32) : ex_u x < 4294967296 := Nat.mod_lt _ (by decide)
theorem ex_u_int (x : Int32) : (ex_u x : Int) = x.toInt + 2147483648 := by
  have h := x.toBitVec.isLt
  have e : x.toInt = x.toBitVec.toInt := rfl
  rw [e, BitVec.toInt_eq_toNat_cond]
  unfold ex_u
  split <;> omega
theorem ex_u_inj {x y : Int32} (h : ex_u x = ex_u y) : x = y := by
  have h1 := ex_u_int x
  have h2 := ex_u_int y
  exact Int32.toInt_inj.mp (by omega)
theorem ex_u_lti {x y : Int32} : x < y ↔ ex_u x < ex_u y := by
  have h1 := ex_u_int x
  have h2 := ex_u_int y
  rw [Int32.lt_iff_toInt_lt]
  omega
theorem ex_u_lei {x y : Int32} : x ≤ y ↔ ex_u x ≤ ex_u y := by
  have h1 := ex_u_int x
  have h2 := ex_u_int y
  rw [Int32.le_iff_toInt_le]
  omega
theorem ex_u_0 : ex_u 0 = 2147483648 := by decide
theorem ex_u_nneg {x : Int32} (h : 2147483648 ≤ ex_u x) : ¬ x < 0 := by
  rw [ex_u_lti, ex_u_0]; omega
theorem ex_u_cl {x : Int32} (h : 2147483648 ≤ ex_u x) : x.toNatClampNeg = ex_u x - 2147483648 := by
  have h1 := ex_u_int x
  have e : x.toNatClampNeg = x.toInt.toNat := rfl
  rw [e]; omega
theorem ex_u_tn (x : Int32) : x.toBitVec.toNat = ex_t (ex_u x) := by
  have h := x.toBitVec.isLt
  unfold ex_t ex_u
  omega
theorem ex_u_of (x : Int32) : ex_u x = ex_t x.toBitVec.toNat := rfl
theorem ex_u_add (x y : Int32) : ex_u (x + y) = (ex_u x + ex_u y + 2147483648) % 4294967296 := by
  have h1 := x.toBitVec.isLt
  have h2 := y.toBitVec.isLt
  have e : (x + y).toBitVec.toNat = (x.toBitVec.toNat + y.toBitVec.toNat) % 4294967296 := by rw [Int32.toBitVec_add, BitVec.toNat_add]
  unfold ex_u
  rw [e]; omega
theorem ex_u_sub (x y : Int32) : ex_u (x - y) = (ex_u x + 6442450944 - ex_u y) % 4294967296 := by
  have h1 := x.toBitVec.isLt
  have h2 := y.toBitVec.isLt
  have e : (x - y).toBitVec.toNat = (4294967296 - y.toBitVec.toNat + x.toBitVec.toNat) % 4294967296 := by rw [Int32.toBitVec_sub, BitVec.toNat_sub]
  unfold ex_u
  rw [e]; omega
theorem ex_u_mul (x y : Int32) : ex_u (x * y) = ex_t (ex_t (ex_u x) * ex_t (ex_u y) % 4294967296) := by
  rw [ex_u_of, ← ex_u_tn x, ← ex_u_tn y, Int32.toBitVec_mul, BitVec.toNat_mul]
theorem ex_u_and (x y : Int32) : ex_u (x &&& y) = ex_t (Nat.land (ex_t (ex_u x)) (ex_t (ex_u y))) := by
  rw [ex_u_of, ← ex_u_tn x, ← ex_u_tn y, Int32.toBitVec_and, BitVec.toNat_and]; rfl
theorem ex_u_or (x y : Int32) : ex_u (x ||| y) = ex_t (Nat.lor (ex_t (ex_u x)) (ex_t (ex_u y))) := by
  rw [ex_u_of, ← ex_u_tn x, ← ex_u_tn y, Int32.toBitVec_or, BitVec.toNat_or]; rfl
theorem ex_u_xor (x y : Int32) : ex_u (x ^^^ y) = ex_t (Nat.xor (ex_t (ex_u x)) (ex_t (ex_u y))) := by
  rw [ex_u_of, ← ex_u_tn x, ← ex_u_tn y, Int32.toBitVec_xor, BitVec.toNat_xor]; rfl
theorem ex_u_div {x y : Int32} (hx : 2147483648 ≤ ex_u x) (hy : 2147483649 ≤ ex_u y) : ex_u (x / y) = (ex_u x - 2147483648) / (ex_u y - 2147483648) + 2147483648 := by
  have l1 := ex_u_lt x
  have l2 := ex_u_lt y
  have e1 : x = nI (ex_u x - 2147483648) := ex_u_inj (by have := ex_u_int x; have h := ex_u_int (nI (ex_u x - 2147483648)); rw [nI_toInt (by omega)] at h; omega)
  have e2 : y = nI (ex_u y - 2147483648) := ex_u_inj (by have := ex_u_int y; have h := ex_u_int (nI (ex_u y - 2147483648)); rw [nI_toInt (by omega)] at h; omega)
  have d := pk_div (a := ex_u x - 2147483648) (d := ex_u y - 2147483648) (by omega) (by omega) (by omega)
  rw [← e1, ← e2] at d
  have hq : (ex_u x - 2147483648) / (ex_u y - 2147483648) ≤ ex_u x - 2147483648 := Nat.div_le_self _ _
  have h := ex_u_int (x / y)
  have d2 : (x / y).toInt = (((ex_u x - 2147483648) / (ex_u y - 2147483648) : Nat) : Int) := by rw [d, nI_toInt (by omega)]
  omega
theorem ex_u_rem {x y : Int32} (hx : 2147483648 ≤ ex_u x) (hy : 2147483649 ≤ ex_u y) : ex_u (x - x / y * y) = (ex_u x - 2147483648) % (ex_u y - 2147483648) + 2147483648 := by
  have l1 := ex_u_lt x
  have l2 := ex_u_lt y
  have e1 : x = nI (ex_u x - 2147483648) := ex_u_inj (by have := ex_u_int x; have h := ex_u_int (nI (ex_u x - 2147483648)); rw [nI_toInt (by omega)] at h; omega)
  have e2 : y = nI (ex_u y - 2147483648) := ex_u_inj (by have := ex_u_int y; have h := ex_u_int (nI (ex_u y - 2147483648)); rw [nI_toInt (by omega)] at h; omega)
  have d := pk_rem (a := ex_u x - 2147483648) (d := ex_u y - 2147483648) (by omega) (by omega) (by omega)
  rw [← e1, ← e2] at d
  have hq : (ex_u x - 2147483648) % (ex_u y - 2147483648) < ex_u y - 2147483648 := Nat.mod_lt _ (by omega)
  have h := ex_u_int (x - x / y * y)
  have d2 : (x - x / y * y).toInt = (((ex_u x - 2147483648) % (ex_u y - 2147483648) : Nat) : Int) := by rw [d, nI_toInt (by omega)]
  omega
theorem ex_bif {c : Bool} {α : Type} {a b : α} {P : α → Prop} (h : P (bif c then a else b)) : (c = true ∧ P a) ∨ (c = false ∧ P b) := by
  cases c
  · exact Or.inr ⟨rfl, h⟩
  · exact Or.inl ⟨rfl, h⟩
theorem ex_bifs {c : Bool} {α : Type} {a : Option α} {v : α} (h : (bif c then a else none) = some v) : c = true ∧ a = some v := by
  cases c
  · cases h
  · exact ⟨rfl, h⟩
theorem ex_beq {a b : Nat} (h : Nat.beq a b = true) : a = b := Nat.eq_of_beq_eq_true h
theorem ex_bne {a b : Nat} (h : Nat.beq a b = false) : a ≠ b := Nat.ne_of_beq_eq_false h
theorem ex_ble {a b : Nat} (h : Nat.ble a b = true) : a ≤ b := Nat.le_of_ble_eq_true h
theorem ex_blt {a b : Nat} (h : Nat.blt a b = true) : a < b := Nat.le_of_ble_eq_true h
theorem ex_and {a b : Bool} (h : (a && b) = true) : a = true ∧ b = true := by cases a <;> cases b <;> first | exact ⟨rfl, rfl⟩ | cases h
-- lists
theorem ex_nth_get {α : Type} (l : List α) (k : Nat) : ex_nth l k = l[k]? := by
  induction l generalizing k with
  | nil => rfl
  | cons a t ih => cases k with
    | zero => rfl
    | succ k => exact (ih k).trans (List.getElem?_cons_succ).symm
theorem ex_set_eq {α : Type} (l : List α) (k : Nat) (v : α) : ex_set l k v = l.set k v := by
  induction l generalizing k with
  | nil => rfl
  | cons a t ih => cases k with
    | zero => rfl
    | succ k => exact congrArg (a :: ·) (ih k)
theorem ex_app_eq {α : Type} (l r : List α) : ex_app l r = l ++ r := by
  induction l with
  | nil => rfl
  | cons a t ih => exact congrArg (a :: ·) ih
theorem ex_len_eq {α : Type} (l : List α) : ex_len l = l.length := by
  induction l with
  | nil => rfl
  | cons a t ih => exact congrArg (· + 1) ih
theorem ex_map_eq {α β : Type} (f : α → β) (l : List α) : ex_map f l = l.map f := by
  induction l with
  | nil => rfl
  | cons a t ih => exact congrArg (f a :: ·) ih
theorem ex_range_mem (n lo x : Nat) : x ∈ ex_range n lo ↔ lo ≤ x ∧ x < lo + n := by
  induction n generalizing lo with
  | zero => exact ⟨fun h => absurd h List.not_mem_nil, fun h => by omega⟩
  | succ n ih =>
    show x ∈ lo :: ex_range n (lo + 1) ↔ _
    rw [List.mem_cons, ih]
    omega
theorem ex_get_at {h : ex_H} {k : Nat} {c : ex_C} (e : ex_get h k = some c) : ∃ ch, h[k / 32]? = some ch ∧ ch[k % 32]? = some c := by
  unfold ex_get at e
  split at e
  · rename_i ch hc
    rw [ex_nth_get] at hc e
    exact ⟨ch, hc, e⟩
  · cases e
theorem ex_get_of {h : ex_H} {k : Nat} {c : ex_C} {ch : List ex_C} (e1 : h[k / 32]? = some ch) (e2 : ch[k % 32]? = some c) : ex_get h k = some c := by
  unfold ex_get
  rw [ex_nth_get, e1]
  exact (ex_nth_get _ _).trans e2
theorem ex_put_get {h : ex_H} {k : Nat} {c : ex_C} {j : Nat} {c' : ex_C} (e : ex_get (ex_put h k c) j = some c') : (j = k ∧ c' = c) ∨ (j ≠ k ∧ ex_get h j = some c') := by
  obtain ⟨ch, h1, h2⟩ := ex_get_at e
  unfold ex_put at h1
  split at h1
  · rename_i ck hk
    rw [ex_nth_get] at hk
    rw [ex_set_eq, List.getElem?_set] at h1
    by_cases hd : k / 32 = j / 32
    · rw [if_pos hd] at h1
      split at h1
      · cases h1
        rw [ex_set_eq, List.getElem?_set] at h2
        by_cases hm : k % 32 = j % 32
        · rw [if_pos hm] at h2
          split at h2
          · cases h2
            exact Or.inl ⟨by omega, rfl⟩
          · cases h2
        · rw [if_neg hm] at h2
          exact Or.inr ⟨fun q => hm (by rw [q]), ex_get_of (by rw [← hd]; exact hk) h2⟩
      · cases h1
    · rw [if_neg hd] at h1
      exact Or.inr ⟨fun q => hd (by rw [q]), ex_get_of h1 h2⟩
  · rename_i hn
    refine Or.inr ⟨fun q => ?_, ex_get_of h1 h2⟩
    subst q
    rw [ex_nth_get] at hn
    rw [h1] at hn
    cases hn
theorem ex_push_get {h h' : ex_H} {n : Nat} {c : ex_C} (e : ex_push h n c = some h') {j : Nat} {c' : ex_C} (g : ex_get h' j = some c') : (j = n ∧ c' = c) ∨ ex_get h j = some c' := by
  obtain ⟨ch, h1, h2⟩ := ex_get_at g
  unfold ex_push at e
  rcases ex_bif (P := fun z => z = some h') e with ⟨e0, e1⟩ | ⟨e0, e1⟩
  · obtain ⟨e2, e3⟩ := ex_bifs e1
    cases e3
    have e0 := ex_beq e0
    have e2 := ex_beq e2
    rw [ex_len_eq] at e2
    rw [ex_app_eq] at h1
    by_cases hl : j / 32 < h.length
    · rw [List.getElem?_append_left hl] at h1
      exact Or.inr (ex_get_of h1 h2)
    · rw [List.getElem?_append_right (by omega)] at h1
      have hz : j / 32 - h.length < 1 := (List.getElem?_eq_some_iff.mp h1).1
      rw [show j / 32 - h.length = 0 by omega] at h1
      cases h1
      have hz2 : j % 32 < 1 := (List.getElem?_eq_some_iff.mp h2).1
      rw [show j % 32 = 0 by omega] at h2
      cases h2
      exact Or.inl ⟨by omega, rfl⟩
  · have e0 := ex_bne e0
    split at e1
    · rename_i ck hk
      obtain ⟨e2, e3⟩ := ex_bifs e1
      cases e3
      have e2 := ex_beq e2
      rw [ex_len_eq] at e2
      rw [ex_nth_get] at hk
      rw [ex_set_eq, List.getElem?_set] at h1
      by_cases hd : n / 32 = j / 32
      · rw [if_pos hd] at h1
        split at h1
        · cases h1
          rw [ex_app_eq] at h2
          by_cases hl : j % 32 < ck.length
          · rw [List.getElem?_append_left hl] at h2
            exact Or.inr (ex_get_of (by rw [← hd]; exact hk) h2)
          · rw [List.getElem?_append_right (by omega)] at h2
            have hz : j % 32 - ck.length < 1 := (List.getElem?_eq_some_iff.mp h2).1
            rw [show j % 32 - ck.length = 0 by omega] at h2
            cases h2
            exact Or.inl ⟨by omega, rfl⟩
        · cases h1
      · rw [if_neg hd] at h1
        exact Or.inr (ex_get_of h1 h2)
    · cases e1
theorem ex_lk_mem {α : Type} {l : List (Nat × α)} {i : Nat} {v : α} (h : ex_lk l i = some v) : (i, v) ∈ l := by
  induction l with
  | nil => cases h
  | cons q t ih =>
    rcases ex_bif (P := fun z => z = some v) (show (bif Nat.beq q.1 i then some q.2 else ex_lk t i) = some v from h) with ⟨h1, h2⟩ | ⟨h1, h2⟩
    · cases h2
      have := ex_beq h1
      subst this
      exact List.mem_cons_self
    · exact List.mem_cons_of_mem _ (ih h2)
theorem ex_ovset_lk (l : List (Nat × ex_V)) (i : Nat) (v : ex_V) (j : Nat) : ex_lk (ex_ovset l i v) j = if j = i then some v else ex_lk l j := by
  induction l with
  | nil =>
    show (bif Nat.beq i j then some v else none) = _
    by_cases h : j = i
    · subst h
      rw [if_pos rfl, show Nat.beq j j = true from Nat.beq_refl j]; rfl
    · rw [if_neg h]
      cases hb : Nat.beq i j
      · rfl
      · exact absurd (ex_beq hb).symm h
  | cons q t ih =>
    show ex_lk (bif Nat.beq q.1 i then (i, v) :: t else q :: ex_ovset t i v) j = _
    cases hq : Nat.beq q.1 i
    · show (bif Nat.beq q.1 j then some q.2 else ex_lk (ex_ovset t i v) j) = if j = i then some v else (bif Nat.beq q.1 j then some q.2 else ex_lk t j)
      cases hj : Nat.beq q.1 j
      · exact ih
      · rw [if_neg (fun e => ex_bne hq (by rw [ex_beq hj, e]))]; rfl
    · show (bif Nat.beq i j then some v else ex_lk t j) = if j = i then some v else (bif Nat.beq q.1 j then some q.2 else ex_lk t j)
      rw [ex_beq hq]
      cases hj : Nat.beq i j
      · rw [if_neg (fun e => ex_bne hj e.symm)]; rfl
      · rw [if_pos (ex_beq hj).symm]; rfl
end
section
/-! A checker: states with ints as linear terms over named ints, ranges, side conditions (terms that are 0 at most), what is known of cells; cells are of kinds, and each kind's fields and rows keep to their ranges at every time. -/
abbrev ty_t : Type := Int × List (Nat × Int)
abbrev ty_E : Type := Nat × List (Nat × Int × Int) × List ty_t
abbrev ty_V : Type := (ty_t ⊕ ty_t) ⊕ ((Nat × ty_t) ⊕ ((ty_t × ty_t) ⊕ (Nat ⊕ Unit)))
abbrev ty_L : Type := List (Nat × ty_V)
abbrev ty_K : Type := List (Nat × ty_t × ty_t × ty_V)
abbrev ty_S : Type := List ex_P × ty_L × List ty_V × ty_K
abbrev ty_F : Type := (Int × Int) ⊕ (Unit ⊕ Nat)
abbrev ty_C : Type := (Nat × List ty_F) ⊕ (Nat × Nat × ty_F)
abbrev ty_M : Type := List (Nat × Option Nat)
abbrev ty_i (t : ty_t) : ty_V := .inl (.inl t)
abbrev ty_j (t : ty_t) : ty_V := .inl (.inr t)
abbrev ty_r (k : Nat) (t : ty_t) : ty_V := .inr (.inl (k, t))
abbrev ty_c (s t : ty_t) : ty_V := .inr (.inr (.inl (s, t)))
abbrev ty_x (n : Nat) : ty_V := .inr (.inr (.inr (.inl n)))
abbrev ty_z : ty_V := .inr (.inr (.inr (.inr ())))
def ty_nn (x : Int) : Bool := match x with
  | .ofNat _ => true
  | .negSucc _ => false
def ty_le (x y : Int) : Bool := ty_nn (y - x)
def ty_0 (x : Int) : Bool := match x with
  | .ofNat n => Nat.beq n 0
  | .negSucc _ => false
/-- a number is worked out before it is handed on -/
noncomputable def ty_fc {α : Type} (x : Int) (f : Int → α) : α := match x with
  | .ofNat n => Nat.rec (motive := fun _ => α) (f (.ofNat 0)) (fun m _ => f (.ofNat (m + 1))) n
  | .negSucc n => Nat.rec (motive := fun _ => α) (f (.negSucc 0)) (fun m _ => f (.negSucc (m + 1))) n
abbrev ty_k (c : Int) : ty_t := (c, [])
abbrev ty_s (i : Nat) : ty_t := (0, [(i, 1)])
noncomputable def ty_ins (i : Nat) (a : Int) (l : List (Nat × Int)) : List (Nat × Int) := List.rec (motive := fun _ => List (Nat × Int)) [(i, a)] (fun q t ih => bif Nat.beq q.1 i then ty_fc (q.2 + a) (fun b => bif ty_0 b then t else (i, b) :: t) else q :: ih) l
noncomputable def ty_adl (k : Int) (l r : List (Nat × Int)) : List (Nat × Int) := List.rec (motive := fun _ => List (Nat × Int)) l (fun q _ ih => ty_ins q.1 (k * q.2) ih) r
/-- t + k u -/
noncomputable def ty_add (t u : ty_t) (k : Int) : ty_t := ty_fc (t.1 + k * u.1) (fun c => (c, ty_adl k t.2 u.2))
noncomputable def ty_pl (t : ty_t) (c : Int) : ty_t := ty_fc (t.1 + c) (fun d => (d, t.2))
noncomputable def ty_iv (l : List (Nat × Int × Int)) (i : Nat) : Int × Int := List.rec (motive := fun _ => Int × Int) (-9223372036854775808, 9223372036854775807) (fun q _ ih => bif Nat.beq q.1 i then q.2 else ih) l
noncomputable def ty_hi (e : ty_E) (t : ty_t) : Int := List.rec (motive := fun _ => Int) t.1 (fun q _ ih => ih + (bif ty_nn q.2 then q.2 * (ty_iv e.2.1 q.1).2 else q.2 * (ty_iv e.2.1 q.1).1)) t.2
noncomputable def ty_lo (e : ty_E) (t : ty_t) : Int := List.rec (motive := fun _ => Int) t.1 (fun q _ ih => ih + (bif ty_nn q.2 then q.2 * (ty_iv e.2.1 q.1).1 else q.2 * (ty_iv e.2.1 q.1).2)) t.2
/-- a term is 0 at most: by its range, or with one or two side conditions taken off -/
noncomputable def ty_ent (e : ty_E) (t : ty_t) : Bool := ty_nn (-(ty_hi e t)) || ex_any (fun c => ty_nn (-(ty_hi e (ty_add t c (-1))))) e.2.2 || ex_any (fun c => ex_any (fun c' => ty_nn (-(ty_hi e (ty_add (ty_add t c (-1)) c' (-1))))) e.2.2) e.2.2
noncomputable def ty_in (e : ty_E) (t : ty_t) (l h : Int) : Bool := ty_ent e (ty_add (ty_k l) t (-1)) && ty_ent e (ty_pl t (-h))
def ty_two (l : List (Nat × Int)) : Bool := match l with
  | _ :: _ :: _ => true
  | _ => false
/-- ranges narrowed: w is what they were, L the least that the term may be -/
noncomputable def ty_nar (w : List (Nat × Int × Int)) (L : Int) (l : List (Nat × Int)) : Option (List (Nat × Int × Int)) := List.rec (motive := fun _ => Option (List (Nat × Int × Int))) (some w) (fun q _ ih => match ih with
  | none => none
  | some v => bif ty_le 1 q.2 then ty_fc ((ty_iv w q.1).1 + (-L) / q.2) (fun h => bif ty_le h ((ty_iv v q.1).2) then (bif ty_le (ty_iv v q.1).1 h then some ((q.1, (ty_iv v q.1).1, h) :: v) else none) else some v)
    else bif ty_le q.2 (-1) then ty_fc ((ty_iv w q.1).2 - (-L) / (-q.2)) (fun l' => bif ty_le ((ty_iv v q.1).1) l' then (bif ty_le l' (ty_iv v q.1).2 then some ((q.1, l', (ty_iv v q.1).2) :: v) else none) else some v)
    else some v) l
/-- d is 0 at most from here on; none: it can't be -/
noncomputable def ty_rf (e : ty_E) (d : ty_t) : Option ty_E := ty_fc (ty_lo e d) (fun L => bif ty_le 1 L then none else bif ty_nn (-(ty_hi e d)) then some e else bif ty_ent e (ty_add (ty_k 1) d (-1)) then none else (match ty_nar e.2.1 L d.2 with
  | none => none
  | some v => some (e.1, v, bif ty_two d.2 then d :: e.2.2 else e.2.2)))
noncomputable def ty_rl (e : ty_E) (d : ty_t) : List ty_E := match ty_rf e d with
  | none => []
  | some e' => [e']
noncomputable def ty_rl2 (e : ty_E) (d d' : ty_t) : List ty_E := match ty_rf e d with
  | none => []
  | some e' => ty_rl e' d'
/-- what follows where a compare is so, and where it is not -/
noncomputable def ty_br (c : ClassFile.Cond) (e : ty_E) (a b : ty_t) : List ty_E × List ty_E := match c with
  | .lt => (ty_rl e (ty_pl (ty_add a b (-1)) 1), ty_rl e (ty_add b a (-1)))
  | .ge => (ty_rl e (ty_add b a (-1)), ty_rl e (ty_pl (ty_add a b (-1)) 1))
  | .gt => (ty_rl e (ty_pl (ty_add b a (-1)) 1), ty_rl e (ty_add a b (-1)))
  | .le => (ty_rl e (ty_add a b (-1)), ty_rl e (ty_pl (ty_add b a (-1)) 1))
  | .eq => (ty_rl2 e (ty_add a b (-1)) (ty_add b a (-1)), ex_app (ty_rl e (ty_pl (ty_add a b (-1)) 1)) (ty_rl e (ty_pl (ty_add b a (-1)) 1)))
  | .ne => (ex_app (ty_rl e (ty_pl (ty_add a b (-1)) 1)) (ty_rl e (ty_pl (ty_add b a (-1)) 1)), ty_rl2 e (ty_add a b (-1)) (ty_add b a (-1)))
/-- side conditions held against the ranges once more -/
noncomputable def ty_prop (cs : List ty_t) (e : ty_E) : Option ty_E := List.rec (motive := fun _ => ty_E → Option ty_E) (fun e => some e) (fun c _ ih e => bif ty_le 1 (ty_lo e c) then none else bif ty_nn (-(ty_hi e c)) then ih e else (match ty_nar e.2.1 (ty_lo e c) c.2 with
  | none => none
  | some v => ih (e.1, v, e.2.2))) cs e
/-- a new named int -/
noncomputable def ty_fr (e : ty_E) (l h : Int) (cs : List ty_t) : ty_E := ty_fc l (fun l => ty_fc h (fun h => (e.1 + 1, (e.1, l, h) :: e.2.1, ex_app cs e.2.2)))
abbrev ty_MIN : Int := -2147483648
abbrev ty_MAX : Int := 2147483647
noncomputable def ty_full (e : ty_E) : ty_E × ty_t := (ty_fr e ty_MIN ty_MAX [], ty_s e.1)
noncomputable def ty_cst (e : ty_E) (t : ty_t) : Option Int := ty_fc (ty_lo e t) (fun l => bif ty_le (ty_hi e t) l then some l else none)
/-- an int with few values in a term -/
noncomputable def ty_few (w : Int) (e : ty_E) (t : ty_t) : Option Nat := List.rec (motive := fun _ => Option Nat) none (fun q _ ih => ty_fc ((ty_iv e.2.1 q.1).2 - (ty_iv e.2.1 q.1).1) (fun d => bif ty_le 1 d && ty_le d w then some q.1 else ih)) t.2
/-- a term that is an int, or a new one -/
noncomputable def ty_ok (e : ty_E) (t : ty_t) : ty_E × ty_t := bif ty_le ty_MIN (ty_lo e t) && ty_le (ty_hi e t) ty_MAX then (e, t) else ty_full e
abbrev ty_R : Type := Nat ⊕ (ty_t ⊕ (ty_E × ty_t))
abbrev ty_rv (x : ty_E × ty_t) : Option ty_R := some (.inr (.inr x))
def ty_wr (z : Int) : Int := (z + 2147483648) % 4294967296 - 2147483648
noncomputable def ty_new (e : ty_E) (l h : Int) : Option ty_R := ty_rv (ty_fr e l h [], ty_s e.1)
noncomputable def ty_cs (e : ty_E) (a : ty_t) : List ty_t := match a.2 with
  | [] => []
  | _ :: _ => [ty_add (ty_s e.1) a (-1)]
def ty_mn (a b : Int) : Int := bif ty_le a b then a else b
def ty_mx (a b : Int) : Int := bif ty_le a b then b else a
def ty_pw (h : Int) : Int := match h with
  | .ofNat n => bif Nat.beq n 0 then 0 else Int.ofNat (2 ^ (Nat.log2 n + 1) - 1)
  | .negSucc _ => 0
/-- a mask of ones -/
noncomputable def ty_ones (y : Int) : Bool := ex_any (fun k => ty_0 (y - (2 ^ k - 1))) [1, 2, 3, 4, 5, 6, 7, 8]
noncomputable def ty_a_add (e : ty_E) (a b : ty_t) : Option ty_R := ty_rv (ty_ok e (ty_add a b 1))
noncomputable def ty_a_sub (e : ty_E) (a b : ty_t) : Option ty_R := match ty_cst e a, ty_cst e b with
  | some x, some y => ty_rv (e, ty_k (ty_wr (x - y)))
  | none, some y => bif ty_0 (y - 1) && ty_le (ty_lo e a) ty_MIN && ty_le (ty_hi e a) (-1) then some (.inr (.inl (ty_pl a 2147483647))) else ty_rv (ty_ok e (ty_add a b (-1)))
  | _, _ => ty_rv (ty_ok e (ty_add a b (-1)))
noncomputable def ty_a_mul (e : ty_E) (a b : ty_t) : Option ty_R := match ty_cst e a with
  | some x => ty_rv (ty_ok e (ty_add (ty_k 0) b x))
  | none => (match ty_cst e b with
    | some y => ty_rv (ty_ok e (ty_add (ty_k 0) a y))
    | none => (match ty_few 8 e a with
      | some i => some (.inl i)
      | none => (match ty_few 8 e b with
        | some i => some (.inl i)
        | none => ty_rv (ty_full e))))
noncomputable def ty_a_div (e : ty_E) (a b : ty_t) : Option ty_R := match ty_cst e b with
  | some y => bif ty_le 1 y then (bif ty_nn (ty_lo e a) then ty_rv (ty_fr e (ty_lo e a / y) (ty_hi e a / y) [ty_add (ty_add (ty_k 0) (ty_s e.1) y) a (-1), ty_pl (ty_add a (ty_s e.1) (-y)) (1 - y)], ty_s e.1) else ty_rv (ty_full e)) else bif ty_le y (-1) then ty_rv (ty_full e) else none
  | none => (match ty_few 8 e b with
    | some i => some (.inl i)
    | none => bif ty_le 1 (ty_lo e b) || ty_le (ty_hi e b) (-1) then ty_rv (ty_full e) else none)
noncomputable def ty_a_rem (e : ty_E) (a b : ty_t) : Option ty_R := match ty_cst e b with
  | some y => bif ty_le 1 y then (bif ty_nn (ty_lo e a) then ty_new e 0 (ty_mn (y - 1) (ty_hi e a)) else ty_rv (ty_full e)) else bif ty_le y (-1) then ty_rv (ty_full e) else none
  | none => (match ty_few 8 e b with
    | some i => some (.inl i)
    | none => bif ty_le 1 (ty_lo e b) then (bif ty_nn (ty_lo e a) then ty_rv (ty_fr e 0 (ty_hi e b - 1) [ty_pl (ty_add (ty_s e.1) b (-1)) 1], ty_s e.1) else ty_rv (ty_full e)) else bif ty_le (ty_hi e b) (-1) then ty_rv (ty_full e) else none)
noncomputable def ty_a_and1 (e : ty_E) (a b : ty_t) : Option ty_R := bif ty_nn (ty_lo e a) then (bif ty_nn (ty_lo e b) then ty_rv (ty_fr e 0 (ty_mn (ty_hi e a) (ty_hi e b)) (ex_app (ty_cs e a) (ty_cs e b)), ty_s e.1) else ty_new e 0 (ty_hi e a)) else bif ty_nn (ty_lo e b) then ty_new e 0 (ty_hi e b) else bif ty_le (ty_hi e a) (-1) && ty_le (ty_hi e b) (-1) then ty_rv (ty_fr e ty_MIN (ty_mn (ty_hi e a) (ty_hi e b)) (ex_app (ty_cs e a) (ty_cs e b)), ty_s e.1) else ty_rv (ty_full e)
noncomputable def ty_a_and (e : ty_E) (a b : ty_t) : Option ty_R := match ty_cst e b with
  | some y => bif ty_ones y && ty_le (-(y + 1)) (ty_lo e a) && ty_le (ty_hi e a) y then (bif ty_nn (ty_lo e a) then ty_rv (e, a) else bif ty_le (ty_hi e a) (-1) then ty_rv (e, ty_pl a (y + 1)) else some (.inr (.inl a))) else ty_a_and1 e a b
  | none => ty_a_and1 e a b
noncomputable def ty_a_or (e : ty_E) (a b : ty_t) : Option ty_R := bif ty_nn (ty_lo e a) && ty_nn (ty_lo e b) then ty_new e 0 (ty_mx (ty_pw (ty_hi e a)) (ty_pw (ty_hi e b))) else ty_rv (ty_full e)
noncomputable def ty_a_shl (e : ty_E) (a b : ty_t) : Option ty_R := match ty_cst e a with
  | some x => bif ty_0 (x - 1) && ty_nn (ty_lo e b) && ty_le (ty_hi e b) 30 then ty_new e (2 ^ (ty_lo e b).toNat) (2 ^ (ty_hi e b).toNat) else ty_rv (ty_full e)
  | none => ty_rv (ty_full e)
noncomputable def ty_a_shr (e : ty_E) (a b : ty_t) : Option ty_R := match ty_cst e b with
  | some y => bif ty_nn y && ty_le y 31 && ty_nn (ty_lo e a) then ty_new e (ty_lo e a / 2 ^ y.toNat) (ty_hi e a / 2 ^ y.toNat) else ty_rv (ty_full e)
  | none => ty_rv (ty_full e)
noncomputable def ty_ar (o : Instr) (e : ty_E) (a b : ty_t) : Option ty_R := match o with
  | .iadd => ty_a_add e a b
  | .isub => ty_a_sub e a b
  | .imul => ty_a_mul e a b
  | .idiv => ty_a_div e a b
  | .irem => ty_a_rem e a b
  | .iand => ty_a_and e a b
  | .ior => ty_a_or e a b
  | .ixor => ty_a_or e a b
  | .ishl => ty_a_shl e a b
  | .ishr => ty_a_shr e a b
  | .iushr => ty_rv (ty_full e)
  | _ => none
end
section
/-! what terms, ranges and side conditions say -/
theorem ty_fc_eq {α : Type} (x : Int) (f : Int → α) : ty_fc x f = f x := by
  cases x with
  | ofNat n => cases n <;> rfl
  | negSucc n => cases n <;> rfl
theorem ty_nn_t {x : Int} (h : ty_nn x = true) : 0 ≤ x := by
  cases x with
  | ofNat n => exact Int.natCast_nonneg n
  | negSucc n => cases h
theorem ty_nn_f {x : Int} (h : ty_nn x = false) : x < 0 := by
  cases x with
  | ofNat n => cases h
  | negSucc n => exact Int.negSucc_lt_zero n
theorem ty_nn_of {x : Int} (h : 0 ≤ x) : ty_nn x = true := by
  cases e : ty_nn x with
  | true => rfl
  | false => have := ty_nn_f e; omega
theorem ty_le_t {x y : Int} (h : ty_le x y = true) : x ≤ y := by have := ty_nn_t h; omega
theorem ty_le_f {x y : Int} (h : ty_le x y = false) : y < x := by have := ty_nn_f h; omega
theorem ty_le_of {x y : Int} (h : x ≤ y) : ty_le x y = true := ty_nn_of (by omega)
theorem ty_0_t {x : Int} (h : ty_0 x = true) : x = 0 := by
  cases x with
  | ofNat n => have := ex_beq h; subst this; rfl
  | negSucc n => cases h
def ty_el (ρ : Nat → Int) : List (Nat × Int) → Int
  | [] => 0
  | q :: l => q.2 * ρ q.1 + ty_el ρ l
def ty_ev (ρ : Nat → Int) (t : ty_t) : Int := t.1 + ty_el ρ t.2
def ty_sc (n : Nat) (t : ty_t) : Prop := ∀ q ∈ t.2, q.1 < n
theorem ty_ins_ev (ρ : Nat → Int) (i : Nat) (a : Int) (l : List (Nat × Int)) : ty_el ρ (ty_ins i a l) = a * ρ i + ty_el ρ l := by
  induction l with
  | nil => rfl
  | cons q t ih =>
    show ty_el ρ (bif Nat.beq q.1 i then ty_fc (q.2 + a) (fun b => bif ty_0 b then t else (i, b) :: t) else q :: ty_ins i a t) = a * ρ i + (q.2 * ρ q.1 + ty_el ρ t)
    cases hb : Nat.beq q.1 i with
    | false =>
      show q.2 * ρ q.1 + ty_el ρ (ty_ins i a t) = _
      rw [ih]; omega
    | true =>
      have e := ex_beq hb
      rw [ty_fc_eq]
      show ty_el ρ (bif ty_0 (q.2 + a) then t else (i, q.2 + a) :: t) = _
      rw [e]
      cases h0 : ty_0 (q.2 + a) with
      | true =>
        have := ty_0_t h0
        show ty_el ρ t = _
        have h2 : q.2 * ρ i + a * ρ i = 0 := by rw [← Int.add_mul, this, Int.zero_mul]
        omega
      | false =>
        show (q.2 + a) * ρ i + ty_el ρ t = _
        rw [Int.add_mul]; omega
theorem ty_adl_ev (ρ : Nat → Int) (k : Int) (l r : List (Nat × Int)) : ty_el ρ (ty_adl k l r) = ty_el ρ l + k * ty_el ρ r := by
  induction r with
  | nil =>
    show ty_el ρ l = ty_el ρ l + k * 0
    rw [Int.mul_zero, Int.add_zero]
  | cons q t ih =>
    show ty_el ρ (ty_ins q.1 (k * q.2) (ty_adl k l t)) = ty_el ρ l + k * (q.2 * ρ q.1 + ty_el ρ t)
    rw [ty_ins_ev, ih, Int.mul_add, Int.mul_assoc]; omega
theorem ty_add_ev (ρ : Nat → Int) (t u : ty_t) (k : Int) : ty_ev ρ (ty_add t u k) = ty_ev ρ t + k * ty_ev ρ u := by
  unfold ty_add
  rw [ty_fc_eq]
  show t.1 + k * u.1 + ty_el ρ (ty_adl k t.2 u.2) = t.1 + ty_el ρ t.2 + k * (u.1 + ty_el ρ u.2)
  rw [ty_adl_ev, Int.mul_add]; omega
theorem ty_sub_ev (ρ : Nat → Int) (t u : ty_t) : ty_ev ρ (ty_add t u (-1)) = ty_ev ρ t - ty_ev ρ u := by rw [ty_add_ev]; omega
theorem ty_pl_ev (ρ : Nat → Int) (t : ty_t) (c : Int) : ty_ev ρ (ty_pl t c) = ty_ev ρ t + c := by
  unfold ty_pl
  rw [ty_fc_eq]
  show t.1 + c + ty_el ρ t.2 = t.1 + ty_el ρ t.2 + c
  omega
theorem ty_k_ev (ρ : Nat → Int) (c : Int) : ty_ev ρ (ty_k c) = c := Int.add_zero c
theorem ty_s_ev (ρ : Nat → Int) (i : Nat) : ty_ev ρ (ty_s i) = ρ i := by
  show 0 + (1 * ρ i + 0) = ρ i
  omega
theorem ty_ins_sc {n i : Nat} {a : Int} {l : List (Nat × Int)} (hi : i < n) (h : ∀ q ∈ l, q.1 < n) : ∀ q ∈ ty_ins i a l, q.1 < n := by
  induction l with
  | nil =>
    intro q hq
    have hq : q ∈ [(i, a)] := hq
    rw [List.mem_singleton] at hq
    subst hq
    exact hi
  | cons p t ih =>
    intro q hq
    have ht : ∀ q ∈ t, q.1 < n := fun q hq => h q (List.mem_cons_of_mem _ hq)
    have hq : q ∈ (bif Nat.beq p.1 i then ty_fc (p.2 + a) (fun b => bif ty_0 b then t else (i, b) :: t) else p :: ty_ins i a t) := hq
    rw [ty_fc_eq] at hq
    cases hb : Nat.beq p.1 i with
    | false =>
      rw [hb] at hq
      have hq : q ∈ p :: ty_ins i a t := hq
      rcases List.mem_cons.mp hq with rfl | hq
      · exact h _ List.mem_cons_self
      · exact ih ht q hq
    | true =>
      rw [hb] at hq
      have hq : q ∈ (bif ty_0 (p.2 + a) then t else (i, p.2 + a) :: t) := hq
      cases h0 : ty_0 (p.2 + a) with
      | true => rw [h0] at hq; exact ht q hq
      | false =>
        rw [h0] at hq
        have hq : q ∈ (i, p.2 + a) :: t := hq
        rcases List.mem_cons.mp hq with rfl | hq
        · exact hi
        · exact ht q hq
theorem ty_adl_sc {n : Nat} {k : Int} {l r : List (Nat × Int)} (hl : ∀ q ∈ l, q.1 < n) (hr : ∀ q ∈ r, q.1 < n) : ∀ q ∈ ty_adl k l r, q.1 < n := by
  induction r with
  | nil => exact hl
  | cons p t ih => exact ty_ins_sc (hr p List.mem_cons_self) (ih (fun q hq => hr q (List.mem_cons_of_mem _ hq)))
theorem ty_add_sc {n : Nat} {t u : ty_t} {k : Int} (ht : ty_sc n t) (hu : ty_sc n u) : ty_sc n (ty_add t u k) := by
  unfold ty_add
  rw [ty_fc_eq]
  exact ty_adl_sc ht hu
theorem ty_pl_sc {n : Nat} {t : ty_t} {c : Int} (ht : ty_sc n t) : ty_sc n (ty_pl t c) := by
  unfold ty_pl
  rw [ty_fc_eq]
  exact ht
theorem ty_k_sc {n : Nat} {c : Int} : ty_sc n (ty_k c) := fun q hq => by cases hq
theorem ty_s_sc {n i : Nat} (h : i < n) : ty_sc n (ty_s i) := fun q hq => by
  have hq : q ∈ [(i, (1 : Int))] := hq
  rw [List.mem_singleton] at hq
  subst hq
  exact h
theorem ty_sc.mono {n n' : Nat} {t : ty_t} (h : ty_sc n t) (hn : n ≤ n') : ty_sc n' t := fun q hq => Nat.lt_of_lt_of_le (h q hq) hn
def ty_ag (n : Nat) (ρ ρ' : Nat → Int) : Prop := ∀ i, i < n → ρ i = ρ' i
theorem ty_ev_ag {n : Nat} {ρ ρ' : Nat → Int} (h : ty_ag n ρ ρ') {t : ty_t} (ht : ty_sc n t) : ty_ev ρ' t = ty_ev ρ t := by
  have key : ∀ l : List (Nat × Int), (∀ q ∈ l, q.1 < n) → ty_el ρ' l = ty_el ρ l := by
    intro l
    induction l with
    | nil => intro _; rfl
    | cons q l ih =>
      intro hl
      show q.2 * ρ' q.1 + ty_el ρ' l = q.2 * ρ q.1 + ty_el ρ l
      rw [ih (fun q hq => hl q (List.mem_cons_of_mem _ hq)), h q.1 (hl q List.mem_cons_self)]
  show t.1 + ty_el ρ' t.2 = t.1 + ty_el ρ t.2
  rw [key t.2 ht]
/-- the ranges hold -/
def ty_bd (ρ : Nat → Int) (v : List (Nat × Int × Int)) : Prop := ∀ i, (ty_iv v i).1 ≤ ρ i ∧ ρ i ≤ (ty_iv v i).2
def ty_er (ρ : Nat → Int) (e : ty_E) : Prop := ty_bd ρ e.2.1 ∧ ∀ c ∈ e.2.2, ty_sc e.1 c ∧ ty_ev ρ c ≤ 0
theorem ty_iv_cons (q : Nat × Int × Int) (v : List (Nat × Int × Int)) (i : Nat) : ty_iv (q :: v) i = bif Nat.beq q.1 i then q.2 else ty_iv v i := rfl
theorem ty_bd_cons {ρ : Nat → Int} {v : List (Nat × Int × Int)} (h : ty_bd ρ v) {i : Nat} {l u : Int} (h1 : l ≤ ρ i) (h2 : ρ i ≤ u) : ty_bd ρ ((i, l, u) :: v) := by
  intro j
  rw [ty_iv_cons]
  cases hb : Nat.beq i j with
  | false => exact h j
  | true =>
    have := ex_beq hb
    subst this
    exact ⟨h1, h2⟩
theorem ty_hi_ok {ρ : Nat → Int} {e : ty_E} (h : ty_bd ρ e.2.1) (t : ty_t) : ty_ev ρ t ≤ ty_hi e t := by
  have key : ∀ (l : List (Nat × Int)) (c : Int), c + ty_el ρ l ≤ List.rec (motive := fun _ => Int) c (fun q _ ih => ih + (bif ty_nn q.2 then q.2 * (ty_iv e.2.1 q.1).2 else q.2 * (ty_iv e.2.1 q.1).1)) l := by
    intro l c
    induction l with
    | nil => show c + 0 ≤ c; omega
    | cons q l ih =>
      have b := h q.1
      have m : q.2 * ρ q.1 ≤ (bif ty_nn q.2 then q.2 * (ty_iv e.2.1 q.1).2 else q.2 * (ty_iv e.2.1 q.1).1) := by
        cases hn : ty_nn q.2 with
        | true => exact Int.mul_le_mul_of_nonneg_left b.2 (ty_nn_t hn)
        | false => exact Int.mul_le_mul_of_nonpos_left (by have := ty_nn_f hn; omega) b.1
      show c + (q.2 * ρ q.1 + ty_el ρ l) ≤ _ + (bif ty_nn q.2 then q.2 * (ty_iv e.2.1 q.1).2 else q.2 * (ty_iv e.2.1 q.1).1)
      omega
  exact key t.2 t.1
theorem ty_lo_ok {ρ : Nat → Int} {e : ty_E} (h : ty_bd ρ e.2.1) (t : ty_t) : ty_lo e t ≤ ty_ev ρ t := by
  have key : ∀ (l : List (Nat × Int)) (c : Int), List.rec (motive := fun _ => Int) c (fun q _ ih => ih + (bif ty_nn q.2 then q.2 * (ty_iv e.2.1 q.1).1 else q.2 * (ty_iv e.2.1 q.1).2)) l ≤ c + ty_el ρ l := by
    intro l c
    induction l with
    | nil => show c ≤ c + 0; omega
    | cons q l ih =>
      have b := h q.1
      have m : (bif ty_nn q.2 then q.2 * (ty_iv e.2.1 q.1).1 else q.2 * (ty_iv e.2.1 q.1).2) ≤ q.2 * ρ q.1 := by
        cases hn : ty_nn q.2 with
        | true => exact Int.mul_le_mul_of_nonneg_left b.1 (ty_nn_t hn)
        | false => exact Int.mul_le_mul_of_nonpos_left (by have := ty_nn_f hn; omega) b.2
      show _ + (bif ty_nn q.2 then q.2 * (ty_iv e.2.1 q.1).1 else q.2 * (ty_iv e.2.1 q.1).2) ≤ c + (q.2 * ρ q.1 + ty_el ρ l)
      omega
  exact key t.2 t.1
theorem ty_any_t {α : Type} {f : α → Bool} {l : List α} (h : ex_any f l = true) : ∃ a ∈ l, f a = true := by
  induction l with
  | nil => cases h
  | cons a t ih =>
    rcases Bool.or_eq_true _ _ |>.mp (show (f a || ex_any f t) = true from h) with h1 | h1
    · exact ⟨a, List.mem_cons_self, h1⟩
    · obtain ⟨b, hb, h2⟩ := ih h1
      exact ⟨b, List.mem_cons_of_mem _ hb, h2⟩
theorem ty_ent_ok {ρ : Nat → Int} {e : ty_E} (h : ty_er ρ e) {t : ty_t} (hc : ty_ent e t = true) : ty_ev ρ t ≤ 0 := by
  unfold ty_ent at hc
  rcases Bool.or_eq_true _ _ |>.mp hc with hc | hc
  · rcases Bool.or_eq_true _ _ |>.mp hc with hc | hc
    · have := ty_nn_t hc
      have := ty_hi_ok h.1 t
      omega
    · obtain ⟨c, h1, h2⟩ := ty_any_t hc
      have h2 := ty_nn_t h2
      have h3 := ty_hi_ok h.1 (ty_add t c (-1))
      rw [ty_sub_ev] at h3
      have := (h.2 c h1).2
      omega
  · obtain ⟨c, h1, h2⟩ := ty_any_t hc
    obtain ⟨c', h3, h4⟩ := ty_any_t h2
    have h4 := ty_nn_t h4
    have h5 := ty_hi_ok h.1 (ty_add (ty_add t c (-1)) c' (-1))
    rw [ty_sub_ev, ty_sub_ev] at h5
    have := (h.2 c h1).2
    have := (h.2 c' h3).2
    omega
theorem ty_in_ok {ρ : Nat → Int} {e : ty_E} (h : ty_er ρ e) {t : ty_t} {l u : Int} (hc : ty_in e t l u = true) : l ≤ ty_ev ρ t ∧ ty_ev ρ t ≤ u := by
  obtain ⟨h1, h2⟩ := ex_and hc
  have h1 := ty_ent_ok h h1
  have h2 := ty_ent_ok h h2
  rw [ty_sub_ev, ty_k_ev] at h1
  rw [ty_pl_ev] at h2
  omega
/-- a term's one part is at most what the whole is above its least -/
theorem ty_part {ρ : Nat → Int} {e : ty_E} (h : ty_bd ρ e.2.1) : ∀ (l : List (Nat × Int)) (c : Int) (q : Nat × Int), q ∈ l → q.2 * ρ q.1 - (bif ty_nn q.2 then q.2 * (ty_iv e.2.1 q.1).1 else q.2 * (ty_iv e.2.1 q.1).2) ≤ c + ty_el ρ l - List.rec (motive := fun _ => Int) c (fun q _ ih => ih + (bif ty_nn q.2 then q.2 * (ty_iv e.2.1 q.1).1 else q.2 * (ty_iv e.2.1 q.1).2)) l
  | [], _, _, hq => by cases hq
  | p :: l, c, q, hq => by
    have low : ∀ p : Nat × Int, (bif ty_nn p.2 then p.2 * (ty_iv e.2.1 p.1).1 else p.2 * (ty_iv e.2.1 p.1).2) ≤ p.2 * ρ p.1 := fun p => by
      have b := h p.1
      cases hn : ty_nn p.2 with
      | true => exact Int.mul_le_mul_of_nonneg_left b.1 (ty_nn_t hn)
      | false => exact Int.mul_le_mul_of_nonpos_left (by have := ty_nn_f hn; omega) b.2
    have lp := low p
    show _ ≤ c + (p.2 * ρ p.1 + ty_el ρ l) - (List.rec (motive := fun _ => Int) c (fun q _ ih => ih + (bif ty_nn q.2 then q.2 * (ty_iv e.2.1 q.1).1 else q.2 * (ty_iv e.2.1 q.1).2)) l + (bif ty_nn p.2 then p.2 * (ty_iv e.2.1 p.1).1 else p.2 * (ty_iv e.2.1 p.1).2))
    rcases List.mem_cons.mp hq with rfl | hq
    · have := ty_lo_ok (e := e) h (c, l)
      have : List.rec (motive := fun _ => Int) c (fun q _ ih => ih + (bif ty_nn q.2 then q.2 * (ty_iv e.2.1 q.1).1 else q.2 * (ty_iv e.2.1 q.1).2)) l ≤ c + ty_el ρ l := this
      omega
    · have := ty_part h l c q hq
      omega
theorem ty_nar_ok {ρ : Nat → Int} {w : List (Nat × Int × Int)} (hw : ty_bd ρ w) {L : Int} : ∀ (l : List (Nat × Int)), (∀ q ∈ l, (1 ≤ q.2 → q.2 * (ρ q.1 - (ty_iv w q.1).1) ≤ -L) ∧ (q.2 ≤ -1 → (-q.2) * ((ty_iv w q.1).2 - ρ q.1) ≤ -L)) → ∃ v, ty_nar w L l = some v ∧ ty_bd ρ v
  | [], _ => ⟨w, rfl, hw⟩
  | q :: l, hl => by
    obtain ⟨v, h1, h2⟩ := ty_nar_ok hw l (fun q hq => hl q (List.mem_cons_of_mem _ hq))
    obtain ⟨p1, p2⟩ := hl q List.mem_cons_self
    have b := h2 q.1
    have e0 : ty_nar w L (q :: l) = (match ty_nar w L l with
      | none => none
      | some v => bif ty_le 1 q.2 then ty_fc ((ty_iv w q.1).1 + (-L) / q.2) (fun h => bif ty_le h ((ty_iv v q.1).2) then (bif ty_le (ty_iv v q.1).1 h then some ((q.1, (ty_iv v q.1).1, h) :: v) else none) else some v)
        else bif ty_le q.2 (-1) then ty_fc ((ty_iv w q.1).2 - (-L) / (-q.2)) (fun l' => bif ty_le ((ty_iv v q.1).1) l' then (bif ty_le l' (ty_iv v q.1).2 then some ((q.1, l', (ty_iv v q.1).2) :: v) else none) else some v)
        else some v) := rfl
    rw [e0, h1]
    simp only [ty_fc_eq]
    cases c1 : ty_le 1 q.2 with
    | true =>
      have a1 := ty_le_t c1
      have g := p1 a1
      have g2 : ρ q.1 - (ty_iv w q.1).1 ≤ -L / q.2 := Int.le_ediv_of_mul_le (by omega) (by rw [Int.mul_comm]; exact g)
      show ∃ v', (bif ty_le ((ty_iv w q.1).1 + -L / q.2) (ty_iv v q.1).2 then (bif ty_le (ty_iv v q.1).1 ((ty_iv w q.1).1 + -L / q.2) then some ((q.1, (ty_iv v q.1).1, (ty_iv w q.1).1 + -L / q.2) :: v) else none) else some v) = some v' ∧ _
      cases c2 : ty_le ((ty_iv w q.1).1 + -L / q.2) (ty_iv v q.1).2 with
      | false => exact ⟨v, rfl, h2⟩
      | true =>
        rw [ty_le_of (show (ty_iv v q.1).1 ≤ (ty_iv w q.1).1 + -L / q.2 by omega)]
        exact ⟨_, rfl, ty_bd_cons h2 b.1 (by omega)⟩
    | false =>
      show ∃ v', (bif ty_le q.2 (-1) then (bif ty_le ((ty_iv v q.1).1) ((ty_iv w q.1).2 - -L / -q.2) then (bif ty_le ((ty_iv w q.1).2 - -L / -q.2) (ty_iv v q.1).2 then some ((q.1, (ty_iv w q.1).2 - -L / -q.2, (ty_iv v q.1).2) :: v) else none) else some v) else some v) = some v' ∧ _
      cases c2 : ty_le q.2 (-1) with
      | false => exact ⟨v, rfl, h2⟩
      | true =>
        have a1 := ty_le_t c2
        have g := p2 a1
        have g2 : (ty_iv w q.1).2 - ρ q.1 ≤ -L / -q.2 := Int.le_ediv_of_mul_le (by omega) (by rw [Int.mul_comm]; exact g)
        show ∃ v', (bif ty_le ((ty_iv v q.1).1) ((ty_iv w q.1).2 - -L / -q.2) then (bif ty_le ((ty_iv w q.1).2 - -L / -q.2) (ty_iv v q.1).2 then some ((q.1, (ty_iv w q.1).2 - -L / -q.2, (ty_iv v q.1).2) :: v) else none) else some v) = some v' ∧ _
        cases c3 : ty_le ((ty_iv v q.1).1) ((ty_iv w q.1).2 - -L / -q.2) with
        | false => exact ⟨v, rfl, h2⟩
        | true =>
          rw [ty_le_of (show (ty_iv w q.1).2 - -L / -q.2 ≤ (ty_iv v q.1).2 by omega)]
          exact ⟨_, rfl, ty_bd_cons h2 (by omega) b.2⟩
theorem ty_nar_of {ρ : Nat → Int} {e : ty_E} (h : ty_bd ρ e.2.1) {d : ty_t} (hd : ty_ev ρ d ≤ 0) : ∃ v, ty_nar e.2.1 (ty_lo e d) d.2 = some v ∧ ty_bd ρ v := by
  refine ty_nar_ok h d.2 (fun q hq => ?_)
  have p := ty_part h d.2 d.1 q hq
  have p : q.2 * ρ q.1 - (bif ty_nn q.2 then q.2 * (ty_iv e.2.1 q.1).1 else q.2 * (ty_iv e.2.1 q.1).2) ≤ ty_ev ρ d - ty_lo e d := p
  constructor
  · intro h1
    rw [ty_nn_of (show (0 : Int) ≤ q.2 by omega)] at p
    have p : q.2 * ρ q.1 - q.2 * (ty_iv e.2.1 q.1).1 ≤ ty_ev ρ d - ty_lo e d := p
    rw [Int.mul_sub]; omega
  · intro h1
    have hf : ty_nn q.2 = false := by
      cases hn : ty_nn q.2 with
      | false => rfl
      | true => have := ty_nn_t hn; omega
    rw [hf] at p
    have p : q.2 * ρ q.1 - q.2 * (ty_iv e.2.1 q.1).2 ≤ ty_ev ρ d - ty_lo e d := p
    rw [Int.neg_mul, Int.mul_sub]; omega
theorem ty_rf_ok {ρ : Nat → Int} {e : ty_E} (h : ty_er ρ e) {d : ty_t} (hs : ty_sc e.1 d) (hd : ty_ev ρ d ≤ 0) : ∃ e', ty_rf e d = some e' ∧ ty_er ρ e' ∧ e'.1 = e.1 := by
  unfold ty_rf
  rw [ty_fc_eq]
  have l := ty_lo_ok h.1 d
  have c1 : ty_le 1 (ty_lo e d) = false := by
    cases hc : ty_le 1 (ty_lo e d) with
    | false => rfl
    | true => have := ty_le_t hc; omega
  rw [c1]
  show ∃ e', (bif ty_nn (-(ty_hi e d)) then some e else bif ty_ent e (ty_add (ty_k 1) d (-1)) then none else (match ty_nar e.2.1 (ty_lo e d) d.2 with
    | none => none
    | some v => some (e.1, v, bif ty_two d.2 then d :: e.2.2 else e.2.2))) = some e' ∧ _
  cases c2 : ty_nn (-(ty_hi e d)) with
  | true => exact ⟨e, rfl, h, rfl⟩
  | false =>
    have c3 : ty_ent e (ty_add (ty_k 1) d (-1)) = false := by
      cases hc : ty_ent e (ty_add (ty_k 1) d (-1)) with
      | false => rfl
      | true =>
        have := ty_ent_ok h hc
        rw [ty_sub_ev, ty_k_ev] at this
        omega
    rw [c3]
    obtain ⟨v, h1, h2⟩ := ty_nar_of h.1 hd
    show ∃ e', (match ty_nar e.2.1 (ty_lo e d) d.2 with
      | none => none
      | some v => some (e.1, v, bif ty_two d.2 then d :: e.2.2 else e.2.2)) = some e' ∧ _
    rw [h1]
    refine ⟨_, rfl, ⟨h2, fun c hc => ?_⟩, rfl⟩
    have hc : c ∈ (bif ty_two d.2 then d :: e.2.2 else e.2.2) := hc
    cases ht : ty_two d.2 with
    | false => rw [ht] at hc; exact h.2 c hc
    | true =>
      rw [ht] at hc
      rcases List.mem_cons.mp hc with rfl | hc
      · exact ⟨hs, hd⟩
      · exact h.2 c hc
theorem ty_rl_ok {ρ : Nat → Int} {e : ty_E} (h : ty_er ρ e) {d : ty_t} (hs : ty_sc e.1 d) (hd : ty_ev ρ d ≤ 0) : ∃ e' ∈ ty_rl e d, ty_er ρ e' ∧ e'.1 = e.1 := by
  obtain ⟨e', h1, h2⟩ := ty_rf_ok h hs hd
  exact ⟨e', by unfold ty_rl; rw [h1]; exact List.mem_singleton.mpr rfl, h2⟩
theorem ty_rl2_ok {ρ : Nat → Int} {e : ty_E} (h : ty_er ρ e) {d d' : ty_t} (hs : ty_sc e.1 d) (hd : ty_ev ρ d ≤ 0) (hs' : ty_sc e.1 d') (hd' : ty_ev ρ d' ≤ 0) : ∃ e' ∈ ty_rl2 e d d', ty_er ρ e' ∧ e'.1 = e.1 := by
  obtain ⟨e', h1, h2, h3⟩ := ty_rf_ok h hs hd
  obtain ⟨e'', h4, h5, h6⟩ := ty_rl_ok h2 (h3 ▸ hs') hd'
  exact ⟨e'', by unfold ty_rl2; rw [h1]; exact h4, h5, h6.trans h3⟩
def ty_cm (c : ClassFile.Cond) (y z : Int) : Prop := match c with
  | .eq => y = z
  | .ne => ¬ y = z
  | .lt => y < z
  | .ge => ¬ y < z
  | .gt => z < y
  | .le => ¬ z < y
theorem ty_br_ok {ρ : Nat → Int} {e : ty_E} (h : ty_er ρ e) {c : ClassFile.Cond} {a b : ty_t} (ha : ty_sc e.1 a) (hb : ty_sc e.1 b) : (ty_cm c (ty_ev ρ a) (ty_ev ρ b) → ∃ e' ∈ (ty_br c e a b).1, ty_er ρ e' ∧ e'.1 = e.1) ∧ (¬ ty_cm c (ty_ev ρ a) (ty_ev ρ b) → ∃ e' ∈ (ty_br c e a b).2, ty_er ρ e' ∧ e'.1 = e.1) := by
  have lt : ∀ {x y : ty_t}, ty_sc e.1 x → ty_sc e.1 y → ty_ev ρ x < ty_ev ρ y → ∃ e' ∈ ty_rl e (ty_pl (ty_add x y (-1)) 1), ty_er ρ e' ∧ e'.1 = e.1 := fun hx hy hl => ty_rl_ok h (ty_pl_sc (ty_add_sc hx hy)) (by rw [ty_pl_ev, ty_sub_ev]; omega)
  have le : ∀ {x y : ty_t}, ty_sc e.1 x → ty_sc e.1 y → ty_ev ρ x ≤ ty_ev ρ y → ∃ e' ∈ ty_rl e (ty_add x y (-1)), ty_er ρ e' ∧ e'.1 = e.1 := fun hx hy hl => ty_rl_ok h (ty_add_sc hx hy) (by rw [ty_sub_ev]; omega)
  have eq : ty_ev ρ a = ty_ev ρ b → ∃ e' ∈ ty_rl2 e (ty_add a b (-1)) (ty_add b a (-1)), ty_er ρ e' ∧ e'.1 = e.1 := fun hl => ty_rl2_ok h (ty_add_sc ha hb) (by rw [ty_sub_ev]; omega) (ty_add_sc hb ha) (by rw [ty_sub_ev]; omega)
  have ne : ¬ ty_ev ρ a = ty_ev ρ b → ∃ e' ∈ ex_app (ty_rl e (ty_pl (ty_add a b (-1)) 1)) (ty_rl e (ty_pl (ty_add b a (-1)) 1)), ty_er ρ e' ∧ e'.1 = e.1 := fun hl => by
    rw [ex_app_eq]
    rcases Int.lt_or_gt_of_ne hl with q | q
    · obtain ⟨e', i1, i2⟩ := lt ha hb q
      exact ⟨e', List.mem_append_left _ i1, i2⟩
    · obtain ⟨e', i1, i2⟩ := lt hb ha q
      exact ⟨e', List.mem_append_right _ i1, i2⟩
  cases c with
  | eq => exact ⟨eq, ne⟩
  | ne => exact ⟨ne, fun q => eq (Classical.not_not.mp q)⟩
  | lt => exact ⟨lt ha hb, fun q => le hb ha (by have : ¬ ty_ev ρ a < ty_ev ρ b := q; omega)⟩
  | ge => exact ⟨fun q => le hb ha (by have : ¬ ty_ev ρ a < ty_ev ρ b := q; omega), fun q => lt ha hb (Classical.not_not.mp q)⟩
  | gt => exact ⟨lt hb ha, fun q => le ha hb (by have : ¬ ty_ev ρ b < ty_ev ρ a := q; omega)⟩
  | le => exact ⟨fun q => le ha hb (by have : ¬ ty_ev ρ b < ty_ev ρ a := q; omega), fun q => lt hb ha (Classical.not_not.mp q)⟩
theorem ty_prop_ok {ρ : Nat → Int} : ∀ (cs : List ty_t) (e : ty_E), ty_er ρ e → (∀ c ∈ cs, ty_ev ρ c ≤ 0) → ∃ e', ty_prop cs e = some e' ∧ ty_er ρ e' ∧ e'.1 = e.1
  | [], e, h, _ => ⟨e, rfl, h, rfl⟩
  | c :: cs, e, h, hc => by
    have h0 := hc c List.mem_cons_self
    have l := ty_lo_ok h.1 c
    have c1 : ty_le 1 (ty_lo e c) = false := by
      cases hc : ty_le 1 (ty_lo e c) with
      | false => rfl
      | true => have := ty_le_t hc; omega
    show ∃ e', (bif ty_le 1 (ty_lo e c) then none else bif ty_nn (-(ty_hi e c)) then ty_prop cs e else (match ty_nar e.2.1 (ty_lo e c) c.2 with
      | none => none
      | some v => ty_prop cs (e.1, v, e.2.2))) = some e' ∧ _
    rw [c1]
    have ih := ty_prop_ok (ρ := ρ) cs
    cases c2 : ty_nn (-(ty_hi e c)) with
    | true => exact ih e h (fun c hc' => hc c (List.mem_cons_of_mem _ hc'))
    | false =>
      obtain ⟨v, h1, h2⟩ := ty_nar_of h.1 h0
      show ∃ e', (match ty_nar e.2.1 (ty_lo e c) c.2 with
        | none => none
        | some v => ty_prop cs (e.1, v, e.2.2)) = some e' ∧ _
      rw [h1]
      exact ih (e.1, v, e.2.2) ⟨h2, h.2⟩ (fun c hc' => hc c (List.mem_cons_of_mem _ hc'))
def ty_up (ρ : Nat → Int) (n : Nat) (v : Int) : Nat → Int := fun i => if i = n then v else ρ i
theorem ty_up_ag (ρ : Nat → Int) (n : Nat) (v : Int) : ty_ag n ρ (ty_up ρ n v) := fun i hi => by
  show ρ i = if i = n then v else ρ i
  rw [if_neg (by omega)]
theorem ty_up_at (ρ : Nat → Int) (n : Nat) (v : Int) : ty_up ρ n v n = v := if_pos rfl
theorem ty_fr_ok {ρ : Nat → Int} {e : ty_E} (h : ty_er ρ e) {l u v : Int} (h1 : l ≤ v) (h2 : v ≤ u) {cs : List ty_t} (hc : ∀ c ∈ cs, ty_sc (e.1 + 1) c ∧ ty_ev (ty_up ρ e.1 v) c ≤ 0) : ty_er (ty_up ρ e.1 v) (ty_fr e l u cs) ∧ (ty_fr e l u cs).1 = e.1 + 1 := by
  unfold ty_fr
  rw [ty_fc_eq, ty_fc_eq]
  refine ⟨⟨?_, fun c hc' => ?_⟩, rfl⟩
  · intro i
    show (ty_iv ((e.1, l, u) :: e.2.1) i).1 ≤ _ ∧ _ ≤ (ty_iv ((e.1, l, u) :: e.2.1) i).2
    rw [ty_iv_cons]
    cases hb : Nat.beq e.1 i with
    | true =>
      have := ex_beq hb
      subst this
      rw [ty_up_at]
      exact ⟨h1, h2⟩
    | false =>
      have := ex_bne hb
      show (ty_iv e.2.1 i).1 ≤ (if i = e.1 then v else ρ i) ∧ (if i = e.1 then v else ρ i) ≤ (ty_iv e.2.1 i).2
      rw [if_neg (fun q => this q.symm)]
      exact h.1 i
  · have hc' : c ∈ ex_app cs e.2.2 := hc'
    rw [ex_app_eq] at hc'
    rcases List.mem_append.mp hc' with hc' | hc'
    · exact hc c hc'
    · obtain ⟨s1, s2⟩ := h.2 c hc'
      refine ⟨s1.mono (Nat.le_succ _), ?_⟩
      rw [ty_ev_ag (ty_up_ag ρ e.1 v) s1]
      exact s2
end
section
/-! what the int operations do to terms -/
def ty_is (n : Nat) (ρ : Nat → Int) (t : ty_t) (z : Int) : Prop := ty_sc n t ∧ ty_ev ρ t = z
theorem ty_is.mono {n n' : Nat} {ρ ρ' : Nat → Int} {t : ty_t} {z : Int} (h : ty_is n ρ t z) (ha : ty_ag n ρ ρ') (hn : n ≤ n') : ty_is n' ρ' t z := ⟨h.1.mono hn, by rw [ty_ev_ag ha h.1]; exact h.2⟩
theorem ty_is_k (n : Nat) (ρ : Nat → Int) (c : Int) : ty_is n ρ (ty_k c) c := ⟨ty_k_sc, ty_k_ev ρ c⟩
theorem ty_is_add {n : Nat} {ρ : Nat → Int} {a b : ty_t} {x y : Int} (ha : ty_is n ρ a x) (hb : ty_is n ρ b y) (k : Int) : ty_is n ρ (ty_add a b k) (x + k * y) := ⟨ty_add_sc ha.1 hb.1, by rw [ty_add_ev, ha.2, hb.2]⟩
theorem ty_is_pl {n : Nat} {ρ : Nat → Int} {a : ty_t} {x : Int} (ha : ty_is n ρ a x) (c : Int) : ty_is n ρ (ty_pl a c) (x + c) := ⟨ty_pl_sc ha.1, by rw [ty_pl_ev, ha.2]⟩
theorem ty_bm (z : Int) : z.bmod (2 ^ 32) = ty_wr z := by
  unfold ty_wr Int.bmod
  simp only [show ((2 ^ 32 : Nat) : Int) = 4294967296 from rfl]
  split <;> omega
theorem ty_wr_id {z : Int} (h1 : -2147483648 ≤ z) (h2 : z ≤ 2147483647) : ty_wr z = z := by
  unfold ty_wr; omega
theorem ty_rg (x : Int32) : -2147483648 ≤ x.toInt ∧ x.toInt ≤ 2147483647 := by
  have h1 := Int32.le_toInt x
  have h2 := Int32.toInt_lt x
  omega
theorem ty_rgL (x : Int64) : -9223372036854775808 ≤ x.toInt ∧ x.toInt ≤ 9223372036854775807 := by
  have h1 := Int64.le_toInt x
  have h2 := Int64.toInt_lt x
  omega
/-- a new int that holds z -/
theorem ty_res {ρ : Nat → Int} {e : ty_E} (h : ty_er ρ e) {l u z : Int} (h1 : l ≤ z) (h2 : z ≤ u) {cs : List ty_t} (hc : ∀ c ∈ cs, ty_sc (e.1 + 1) c ∧ ty_ev (ty_up ρ e.1 z) c ≤ 0) : ∃ ρ', ty_ag e.1 ρ ρ' ∧ ty_er ρ' (ty_fr e l u cs) ∧ e.1 ≤ (ty_fr e l u cs).1 ∧ ty_is (ty_fr e l u cs).1 ρ' (ty_s e.1) z := by
  obtain ⟨g1, g2⟩ := ty_fr_ok h h1 h2 hc
  exact ⟨_, ty_up_ag ρ e.1 z, g1, by omega, by rw [g2]; exact ⟨ty_s_sc (Nat.lt_succ_self _), by rw [ty_s_ev, ty_up_at]⟩⟩
theorem ty_res0 {ρ : Nat → Int} {e : ty_E} (h : ty_er ρ e) {l u z : Int} (h1 : l ≤ z) (h2 : z ≤ u) : ∃ ρ', ty_ag e.1 ρ ρ' ∧ ty_er ρ' (ty_fr e l u []) ∧ e.1 ≤ (ty_fr e l u []).1 ∧ ty_is (ty_fr e l u []).1 ρ' (ty_s e.1) z := ty_res h h1 h2 (fun c hc => by cases hc)
def ty_rr (ρ : Nat → Int) (e : ty_E) (z : Int) (r : ty_E × ty_t) : Prop := ∃ ρ', ty_ag e.1 ρ ρ' ∧ ty_er ρ' r.1 ∧ e.1 ≤ r.1.1 ∧ ty_is r.1.1 ρ' r.2 z
theorem ty_rr_id {ρ : Nat → Int} {e : ty_E} (h : ty_er ρ e) {z : Int} {t : ty_t} (ht : ty_is e.1 ρ t z) : ty_rr ρ e z (e, t) := ⟨ρ, fun _ _ => rfl, h, Nat.le_refl _, ht⟩
theorem ty_full_ok {ρ : Nat → Int} {e : ty_E} (h : ty_er ρ e) (z : Int32) : ty_rr ρ e z.toInt (ty_full e) := ty_res0 h (ty_rg z).1 (ty_rg z).2
theorem ty_ok_ok {ρ : Nat → Int} {e : ty_E} (h : ty_er ρ e) {t : ty_t} {z : Int32} {w : Int} (ht : ty_is e.1 ρ t w) (hz : z.toInt = ty_wr w) : ty_rr ρ e z.toInt (ty_ok e t) := by
  unfold ty_ok
  cases hc : (ty_le ty_MIN (ty_lo e t) && ty_le (ty_hi e t) ty_MAX) with
  | false => exact ty_full_ok h z
  | true =>
    obtain ⟨h1, h2⟩ := ex_and hc
    have h1 := ty_le_t h1
    have h2 := ty_le_t h2
    have l1 := ty_lo_ok h.1 t
    have l2 := ty_hi_ok h.1 t
    rw [ht.2] at l1 l2
    have e1 : ty_wr w = w := ty_wr_id (by have : ty_MIN = -2147483648 := rfl; omega) (by have : ty_MAX = 2147483647 := rfl; omega)
    rw [hz, e1]
    exact ty_rr_id h ht
theorem ty_cst_ok {ρ : Nat → Int} {e : ty_E} (h : ty_er ρ e) {t : ty_t} {c : Int} (hc : ty_cst e t = some c) : ty_ev ρ t = c := by
  unfold ty_cst at hc
  rw [ty_fc_eq] at hc
  obtain ⟨h1, h2⟩ := ex_bifs hc
  injection h2 with h2
  have h1 := ty_le_t h1
  have l1 := ty_lo_ok h.1 t
  have l2 := ty_hi_ok h.1 t
  omega
def ty_bv (o : Instr) (x y : Int32) : Option Int32 := match o with
  | .iadd => some (x + y)
  | .isub => some (x - y)
  | .imul => some (x * y)
  | .iand => some (x &&& y)
  | .ior => some (x ||| y)
  | .ixor => some (x ^^^ y)
  | .ishl => some (x <<< (y &&& 31))
  | .ishr => some (x >>> (y &&& 31))
  | .iushr => some (x.toUInt32 >>> (y.toUInt32 &&& Int32.toUInt32 31)).toInt32
  | .idiv => some (x / y)
  | .irem => some (x - x / y * y)
  | _ => none
/-- what an operation's answer says -/
def ty_an (ρ : Nat → Int) (e : ty_E) (o : Instr) (y z : Int32) (r : ty_R) : Prop := match r with
  | .inl _ => True
  | .inr (.inl d) => ty_sc e.1 d
  | .inr (.inr w) => ((o = .idiv ∨ o = .irem) → ¬ y = 0) ∧ ty_rr ρ e z.toInt w
theorem ty_N (x : Int32) : (x.toBitVec.toNat : Int) = if 0 ≤ x.toInt then x.toInt else x.toInt + 4294967296 := by
  have h := x.toBitVec.isLt
  have e : x.toInt = x.toBitVec.toInt := rfl
  rw [e, BitVec.toInt_eq_toNat_cond]
  split <;> split <;> omega
theorem ty_and_b (x y : Int32) : (0 ≤ x.toInt → 0 ≤ (x &&& y).toInt ∧ (x &&& y).toInt ≤ x.toInt) ∧ (0 ≤ y.toInt → 0 ≤ (x &&& y).toInt ∧ (x &&& y).toInt ≤ y.toInt) ∧ (x.toInt < 0 → y.toInt < 0 → (x &&& y).toInt < 0 ∧ (x &&& y).toInt ≤ x.toInt ∧ (x &&& y).toInt ≤ y.toInt) := by
  have n1 := ty_N x
  have n2 := ty_N y
  have n3 := ty_N (x &&& y)
  have r1 := ty_rg x
  have r2 := ty_rg y
  have r3 := ty_rg (x &&& y)
  have e : (x &&& y).toBitVec.toNat = x.toBitVec.toNat &&& y.toBitVec.toNat := by rw [Int32.toBitVec_and, BitVec.toNat_and]
  have l1 : x.toBitVec.toNat &&& y.toBitVec.toNat ≤ x.toBitVec.toNat := Nat.and_le_left
  have l2 : x.toBitVec.toNat &&& y.toBitVec.toNat ≤ y.toBitVec.toNat := Nat.and_le_right
  rw [← e] at l1 l2
  refine ⟨fun h => ?_, fun h => ?_, fun h1 h2 => ?_⟩
  · rw [if_pos h] at n1
    split at n3 <;> omega
  · rw [if_pos h] at n2
    split at n3 <;> omega
  · have m1 : x.toBitVec.msb = true := by rw [BitVec.msb_eq_toInt]; exact decide_eq_true h1
    have m2 : y.toBitVec.msb = true := by rw [BitVec.msb_eq_toInt]; exact decide_eq_true h2
    have m3 : (x &&& y).toBitVec.msb = true := by rw [Int32.toBitVec_and, BitVec.msb_and, m1, m2]; rfl
    rw [BitVec.msb_eq_toInt] at m3
    have m3 : (x &&& y).toInt < 0 := of_decide_eq_true m3
    rw [if_neg (by omega)] at n1 n2 n3
    omega
theorem ty_up_s (ρ : Nat → Int) (n : Nat) (v : Int) : ty_ev (ty_up ρ n v) (ty_s n) = v := by rw [ty_s_ev, ty_up_at]
theorem ty_up_t {ρ : Nat → Int} {n : Nat} {v : Int} {t : ty_t} {z : Int} (h : ty_is n ρ t z) : ty_ev (ty_up ρ n v) t = z := by rw [ty_ev_ag (ty_up_ag ρ n v) h.1]; exact h.2
theorem ty_cs_ok {ρ : Nat → Int} {e : ty_E} {a : ty_t} {x z : Int} (ha : ty_is e.1 ρ a x) (h : z ≤ x) : ∀ c ∈ ty_cs e a, ty_sc (e.1 + 1) c ∧ ty_ev (ty_up ρ e.1 z) c ≤ 0 := by
  intro c hc
  unfold ty_cs at hc
  split at hc
  · cases hc
  · rw [List.mem_singleton] at hc
    subst hc
    exact ⟨ty_add_sc (ty_s_sc (Nat.lt_succ_self _)) (ha.1.mono (Nat.le_succ _)), by rw [ty_sub_ev, ty_up_s, ty_up_t ha]; omega⟩
theorem ty_cs2_ok {ρ : Nat → Int} {e : ty_E} {a b : ty_t} {x y z : Int} (ha : ty_is e.1 ρ a x) (hb : ty_is e.1 ρ b y) (h1 : z ≤ x) (h2 : z ≤ y) : ∀ c ∈ ex_app (ty_cs e a) (ty_cs e b), ty_sc (e.1 + 1) c ∧ ty_ev (ty_up ρ e.1 z) c ≤ 0 := by
  intro c hc
  rw [ex_app_eq] at hc
  rcases List.mem_append.mp hc with hc | hc
  · exact ty_cs_ok ha h1 c hc
  · exact ty_cs_ok hb h2 c hc
theorem ty_mn_le (a b : Int) : ty_mn a b ≤ a ∧ ty_mn a b ≤ b ∧ (ty_mn a b = a ∨ ty_mn a b = b) := by
  unfold ty_mn
  cases h : ty_le a b with
  | true => have := ty_le_t h; exact ⟨Int.le_refl _, this, Or.inl rfl⟩
  | false => have := ty_le_f h; exact ⟨by show b ≤ a; omega, Int.le_refl _, Or.inr rfl⟩
theorem ty_mx_ge (a b : Int) : a ≤ ty_mx a b ∧ b ≤ ty_mx a b := by
  unfold ty_mx
  cases h : ty_le a b with
  | true => have := ty_le_t h; exact ⟨this, Int.le_refl _⟩
  | false => have := ty_le_f h; exact ⟨Int.le_refl _, by show b ≤ a; omega⟩
section TYO
variable {ρ : Nat → Int} {e : ty_E} {a b : ty_t} {x y : Int32} {r : ty_R}
theorem ty_no {o : Instr} (h : o ≠ .idiv) (h' : o ≠ .irem) {y : Int32} : (o = .idiv ∨ o = .irem) → ¬ y = 0 := fun q => by
  rcases q with q | q
  · exact absurd q h
  · exact absurd q h'
theorem ty_a_add_ok (h : ty_er ρ e) (ha : ty_is e.1 ρ a x.toInt) (hb : ty_is e.1 ρ b y.toInt) (hr : ty_a_add e a b = some r) : ty_an ρ e .iadd y (x + y) r := by
  injection hr with hr
  subst hr
  exact ⟨ty_no (by decide) (by decide), ty_ok_ok h (ty_is_add ha hb 1) (by rw [Int32.toInt_add, ty_bm, Int.one_mul])⟩
theorem ty_a_sub_ok (h : ty_er ρ e) (ha : ty_is e.1 ρ a x.toInt) (hb : ty_is e.1 ρ b y.toInt) (hr : ty_a_sub e a b = some r) : ty_an ρ e .isub y (x - y) r := by
  have gen : ty_rr ρ e (x - y).toInt (ty_ok e (ty_add a b (-1))) := ty_ok_ok h (ty_is_add ha hb (-1)) (by rw [Int32.toInt_sub, ty_bm]; congr 1; omega)
  unfold ty_a_sub at hr
  split at hr
  · rename_i u w hu hw
    injection hr with hr
    subst hr
    have e1 := ty_cst_ok h hu
    have e2 := ty_cst_ok h hw
    rw [ha.2] at e1
    rw [hb.2] at e2
    refine ⟨ty_no (by decide) (by decide), ty_rr_id h ?_⟩
    rw [Int32.toInt_sub, ty_bm, e1, e2]
    exact ty_is_k _ _ _
  · rename_i w hu hw
    rcases ex_bif (P := fun z => z = some r) hr with ⟨g1, g2⟩ | ⟨g1, g2⟩
    · injection g2 with g2
      subst g2
      exact ty_pl_sc ha.1
    · injection g2 with g2
      subst g2
      exact ⟨ty_no (by decide) (by decide), gen⟩
  · injection hr with hr
    subst hr
    exact ⟨ty_no (by decide) (by decide), gen⟩
theorem ty_a_mul_ok (h : ty_er ρ e) (ha : ty_is e.1 ρ a x.toInt) (hb : ty_is e.1 ρ b y.toInt) (hr : ty_a_mul e a b = some r) : ty_an ρ e .imul y (x * y) r := by
  unfold ty_a_mul at hr
  split at hr
  · rename_i u hu
    injection hr with hr
    subst hr
    have e1 := ty_cst_ok h hu
    rw [ha.2] at e1
    exact ⟨ty_no (by decide) (by decide), ty_ok_ok h (ty_is_add (ty_is_k _ _ 0) hb u) (by rw [Int32.toInt_mul, ty_bm, e1, Int.zero_add])⟩
  · split at hr
    · rename_i w hw
      injection hr with hr
      subst hr
      have e1 := ty_cst_ok h hw
      rw [hb.2] at e1
      exact ⟨ty_no (by decide) (by decide), ty_ok_ok h (ty_is_add (ty_is_k _ _ 0) ha w) (by rw [Int32.toInt_mul, ty_bm, e1, Int.zero_add, Int.mul_comm])⟩
    · split at hr
      · injection hr with hr
        subst hr
        exact trivial
      · split at hr
        · injection hr with hr
          subst hr
          exact trivial
        · injection hr with hr
          subst hr
          exact ⟨ty_no (by decide) (by decide), ty_full_ok h _⟩
theorem ty_un {x : Int32} (h : 0 ≤ x.toInt) : ((ex_u x - 2147483648 : Nat) : Int) = x.toInt := by
  have u1 := ex_u_int x
  omega
theorem ty_div_b {x y : Int32} (hx : 0 ≤ x.toInt) (hy : 1 ≤ y.toInt) : (x / y).toInt = x.toInt / y.toInt ∧ (x - x / y * y).toInt = x.toInt % y.toInt := by
  have u1 := ex_u_int x
  have u2 := ex_u_int y
  have e1 := ty_un hx
  have e2 := ty_un (x := y) (by omega)
  have d := ex_u_div (x := x) (y := y) (by omega) (by omega)
  have m := ex_u_rem (x := x) (y := y) (by omega) (by omega)
  have u3 := ex_u_int (x / y)
  have u4 := ex_u_int (x - x / y * y)
  have q1 : (((ex_u x - 2147483648) / (ex_u y - 2147483648) : Nat) : Int) = x.toInt / y.toInt := by rw [Int.natCast_ediv, e1, e2]
  have q2 : (((ex_u x - 2147483648) % (ex_u y - 2147483648) : Nat) : Int) = x.toInt % y.toInt := by rw [Int.natCast_emod, e1, e2]
  constructor <;> omega
theorem ty_y0 {y : Int32} (h : 1 ≤ y.toInt ∨ y.toInt ≤ -1) : ¬ y = 0 := fun q => by
  subst q
  have : (0 : Int32).toInt = 0 := rfl
  omega
theorem ty_a_div_ok (h : ty_er ρ e) (ha : ty_is e.1 ρ a x.toInt) (hb : ty_is e.1 ρ b y.toInt) (hr : ty_a_div e a b = some r) : ty_an ρ e .idiv y (x / y) r := by
  unfold ty_a_div at hr
  split at hr
  · rename_i c hc
    have ec := ty_cst_ok h hc
    rw [hb.2] at ec
    rcases ex_bif (P := fun z => z = some r) hr with ⟨g1, g2⟩ | ⟨g1, g2⟩
    · have g1 := ty_le_t g1
      have hy : ¬ y = 0 := ty_y0 (Or.inl (by omega))
      rcases ex_bif (P := fun z => z = some r) g2 with ⟨g3, g4⟩ | ⟨g3, g4⟩
      · have g3 := ty_nn_t g3
        injection g4 with g4
        subst g4
        have l1 := ty_lo_ok h.1 a
        have l2 := ty_hi_ok h.1 a
        rw [ha.2] at l1 l2
        have d := (ty_div_b (x := x) (y := y) (by omega) (by omega)).1
        rw [ec] at d
        have m1 : c * (x.toInt / c) ≤ x.toInt := Int.mul_ediv_self_le (by omega)
        have m2 : x.toInt < c * (x.toInt / c) + c := Int.lt_mul_ediv_self_add (by omega)
        refine ⟨fun _ => hy, ?_⟩
        rw [d]
        refine ty_res h (Int.ediv_le_ediv (by omega) l1) (Int.ediv_le_ediv (by omega) l2) (fun t ht => ?_)
        have sS : ty_sc (e.1 + 1) (ty_s e.1) := ty_s_sc (Nat.lt_succ_self _)
        have sA : ty_sc (e.1 + 1) a := ha.1.mono (Nat.le_succ _)
        rcases List.mem_cons.mp ht with rfl | ht
        · refine ⟨ty_add_sc (ty_add_sc ty_k_sc sS) sA, ?_⟩
          rw [ty_sub_ev, ty_add_ev, ty_k_ev, ty_up_s, ty_up_t ha]
          omega
        · rw [List.mem_singleton] at ht
          subst ht
          refine ⟨ty_pl_sc (ty_add_sc sA sS), ?_⟩
          rw [ty_pl_ev, ty_add_ev, ty_up_s, ty_up_t ha, Int.neg_mul]
          omega
      · injection g4 with g4
        subst g4
        exact ⟨fun _ => hy, ty_full_ok h _⟩
    · obtain ⟨g3, g4⟩ := ex_bifs g2
      injection g4 with g4
      subst g4
      have g3 := ty_le_t g3
      exact ⟨fun _ => ty_y0 (Or.inr (by omega)), ty_full_ok h _⟩
  · split at hr
    · injection hr with hr
      subst hr
      exact trivial
    · obtain ⟨g3, g4⟩ := ex_bifs hr
      injection g4 with g4
      subst g4
      have l1 := ty_lo_ok h.1 b
      have l2 := ty_hi_ok h.1 b
      rw [hb.2] at l1 l2
      refine ⟨fun _ => ?_, ty_full_ok h _⟩
      rcases Bool.or_eq_true _ _ |>.mp g3 with g | g
      · have g := ty_le_t g
        exact ty_y0 (Or.inl (by omega))
      · have g := ty_le_t g
        exact ty_y0 (Or.inr (by omega))
theorem ty_a_rem_ok (h : ty_er ρ e) (ha : ty_is e.1 ρ a x.toInt) (hb : ty_is e.1 ρ b y.toInt) (hr : ty_a_rem e a b = some r) : ty_an ρ e .irem y (x - x / y * y) r := by
  have l1 := ty_lo_ok h.1 a
  have l2 := ty_hi_ok h.1 a
  rw [ha.2] at l1 l2
  have k1 := ty_lo_ok h.1 b
  have k2 := ty_hi_ok h.1 b
  rw [hb.2] at k1 k2
  unfold ty_a_rem at hr
  split at hr
  · rename_i c hc
    have ec := ty_cst_ok h hc
    rw [hb.2] at ec
    rcases ex_bif (P := fun z => z = some r) hr with ⟨g1, g2⟩ | ⟨g1, g2⟩
    · have g1 := ty_le_t g1
      have hy : ¬ y = 0 := ty_y0 (Or.inl (by omega))
      rcases ex_bif (P := fun z => z = some r) g2 with ⟨g3, g4⟩ | ⟨g3, g4⟩
      · have g3 := ty_nn_t g3
        injection g4 with g4
        subst g4
        have d := (ty_div_b (x := x) (y := y) (by omega) (by omega)).2
        rw [ec] at d
        have m1 : 0 ≤ x.toInt % c := Int.emod_nonneg _ (by omega)
        have m2 : x.toInt % c < c := Int.emod_lt_of_pos _ (by omega)
        have m3 : x.toInt % c ≤ x.toInt := by
          have q1 : 0 ≤ c * (x.toInt / c) := Int.mul_nonneg (by omega) (Int.ediv_nonneg (by omega) (by omega))
          have q2 := Int.emod_add_mul_ediv x.toInt c
          omega
        obtain ⟨z1, z2, z3⟩ := ty_mn_le (c - 1) (ty_hi e a)
        refine ⟨fun _ => hy, ?_⟩
        rw [d]
        exact ty_res0 h m1 (by rcases z3 with z | z <;> omega)
      · injection g4 with g4
        subst g4
        exact ⟨fun _ => hy, ty_full_ok h _⟩
    · obtain ⟨g3, g4⟩ := ex_bifs g2
      injection g4 with g4
      subst g4
      have g3 := ty_le_t g3
      exact ⟨fun _ => ty_y0 (Or.inr (by omega)), ty_full_ok h _⟩
  · split at hr
    · injection hr with hr
      subst hr
      exact trivial
    · rcases ex_bif (P := fun z => z = some r) hr with ⟨g1, g2⟩ | ⟨g1, g2⟩
      · have g1 := ty_le_t g1
        have hy : ¬ y = 0 := ty_y0 (Or.inl (by omega))
        rcases ex_bif (P := fun z => z = some r) g2 with ⟨g3, g4⟩ | ⟨g3, g4⟩
        · have g3 := ty_nn_t g3
          injection g4 with g4
          subst g4
          have d := (ty_div_b (x := x) (y := y) (by omega) (by omega)).2
          have m1 : 0 ≤ x.toInt % y.toInt := Int.emod_nonneg _ (by omega)
          have m2 : x.toInt % y.toInt < y.toInt := Int.emod_lt_of_pos _ (by omega)
          refine ⟨fun _ => hy, ?_⟩
          rw [d]
          refine ty_res h m1 (by omega) (fun t ht => ?_)
          rw [List.mem_singleton] at ht
          subst ht
          refine ⟨ty_pl_sc (ty_add_sc (ty_s_sc (Nat.lt_succ_self _)) (hb.1.mono (Nat.le_succ _))), ?_⟩
          rw [ty_pl_ev, ty_sub_ev, ty_up_s, ty_up_t hb]
          omega
        · injection g4 with g4
          subst g4
          exact ⟨fun _ => hy, ty_full_ok h _⟩
      · obtain ⟨g3, g4⟩ := ex_bifs g2
        injection g4 with g4
        subst g4
        have g3 := ty_le_t g3
        exact ⟨fun _ => ty_y0 (Or.inr (by omega)), ty_full_ok h _⟩
theorem ty_a_and1_ok (h : ty_er ρ e) (ha : ty_is e.1 ρ a x.toInt) (hb : ty_is e.1 ρ b y.toInt) (hr : ty_a_and1 e a b = some r) : ty_an ρ e .iand y (x &&& y) r := by
  have l1 := ty_lo_ok h.1 a
  have l2 := ty_hi_ok h.1 a
  rw [ha.2] at l1 l2
  have k1 := ty_lo_ok h.1 b
  have k2 := ty_hi_ok h.1 b
  rw [hb.2] at k1 k2
  obtain ⟨b1, b2, b3⟩ := ty_and_b x y
  obtain ⟨z1, z2, z3⟩ := ty_mn_le (ty_hi e a) (ty_hi e b)
  have nd : ((Instr.iand = .idiv ∨ Instr.iand = .irem) → ¬ y = 0) := ty_no (by decide) (by decide)
  unfold ty_a_and1 at hr
  rcases ex_bif (P := fun z => z = some r) hr with ⟨g1, g2⟩ | ⟨g1, g2⟩
  · have g1 := ty_nn_t g1
    have b1 := b1 (by omega)
    rcases ex_bif (P := fun z => z = some r) g2 with ⟨g3, g4⟩ | ⟨g3, g4⟩
    · have g3 := ty_nn_t g3
      have b2 := b2 (by omega)
      injection g4 with g4
      subst g4
      exact ⟨nd, ty_res h b1.1 (by rcases z3 with z | z <;> omega) (ty_cs2_ok ha hb b1.2 b2.2)⟩
    · injection g4 with g4
      subst g4
      exact ⟨nd, ty_res0 h b1.1 (by omega)⟩
  · rcases ex_bif (P := fun z => z = some r) g2 with ⟨g3, g4⟩ | ⟨g3, g4⟩
    · have g3 := ty_nn_t g3
      have b2 := b2 (by omega)
      injection g4 with g4
      subst g4
      exact ⟨nd, ty_res0 h b2.1 (by omega)⟩
    · rcases ex_bif (P := fun z => z = some r) g4 with ⟨g5, g6⟩ | ⟨g5, g6⟩
      · obtain ⟨g5, g7⟩ := ex_and g5
        have g5 := ty_le_t g5
        have g7 := ty_le_t g7
        have b3 := b3 (by omega) (by omega)
        injection g6 with g6
        subst g6
        exact ⟨nd, ty_res h (ty_rg _).1 (by rcases z3 with z | z <;> omega) (ty_cs2_ok ha hb b3.2.1 b3.2.2)⟩
      · injection g6 with g6
        subst g6
        exact ⟨nd, ty_full_ok h _⟩
theorem ty_ones_ok {y : Int} (h : ty_ones y = true) : ∃ k : Nat, 1 ≤ k ∧ k ≤ 8 ∧ y = 2 ^ k - 1 := by
  obtain ⟨k, h1, h2⟩ := ty_any_t h
  have h2 := ty_0_t h2
  refine ⟨k, ?_, ?_, by omega⟩ <;> (simp only [List.mem_cons, List.not_mem_nil, or_false] at h1; omega)
theorem ty_mask {x y : Int32} {k : Nat} (h1 : 1 ≤ k) (h2 : k ≤ 8) (hy : y.toInt = 2 ^ k - 1) (l1 : -(2 ^ k : Int) ≤ x.toInt) (l2 : x.toInt ≤ 2 ^ k - 1) : (x &&& y).toInt = if 0 ≤ x.toInt then x.toInt else x.toInt + 2 ^ k := by
  have n1 := ty_N x
  have n2 := ty_N y
  have n3 := ty_N (x &&& y)
  have r3 := ty_rg (x &&& y)
  have e : (x &&& y).toBitVec.toNat = x.toBitVec.toNat &&& y.toBitVec.toNat := by rw [Int32.toBitVec_and, BitVec.toNat_and]
  have ey : y.toBitVec.toNat = 2 ^ k - 1 := by
    have p0 : 1 ≤ 2 ^ k := Nat.one_le_two_pow
    have p : (1 : Int) ≤ 2 ^ k := by exact_mod_cast p0
    rw [hy, if_pos (by omega)] at n2
    have q : ((2 ^ k - 1 : Nat) : Int) = 2 ^ k - 1 := by
      have : 1 ≤ 2 ^ k := Nat.one_le_two_pow
      push_cast [this]
      rfl
    omega
  rw [ey, Nat.and_two_pow_sub_one_eq_mod] at e
  rcases (show k = 1 ∨ k = 2 ∨ k = 3 ∨ k = 4 ∨ k = 5 ∨ k = 6 ∨ k = 7 ∨ k = 8 by omega) with rfl | rfl | rfl | rfl | rfl | rfl | rfl | rfl <;> (split at n1 <;> split at n3 <;> split <;> omega)
theorem ty_a_and_ok (h : ty_er ρ e) (ha : ty_is e.1 ρ a x.toInt) (hb : ty_is e.1 ρ b y.toInt) (hr : ty_a_and e a b = some r) : ty_an ρ e .iand y (x &&& y) r := by
  have nd : ((Instr.iand = .idiv ∨ Instr.iand = .irem) → ¬ y = 0) := ty_no (by decide) (by decide)
  unfold ty_a_and at hr
  split at hr
  · rename_i c hc
    have ec := ty_cst_ok h hc
    rw [hb.2] at ec
    rcases ex_bif (P := fun z => z = some r) hr with ⟨g1, g2⟩ | ⟨g1, g2⟩
    · obtain ⟨g1, c3⟩ := ex_and g1
      obtain ⟨c1, c2⟩ := ex_and g1
      obtain ⟨k, k1, k2, k3⟩ := ty_ones_ok c1
      have c2 := ty_le_t c2
      have c3 := ty_le_t c3
      have l1 := ty_lo_ok h.1 a
      have l2 := ty_hi_ok h.1 a
      rw [ha.2] at l1 l2
      have mk := ty_mask (x := x) (y := y) k1 k2 (by omega) (by omega) (by omega)
      rcases ex_bif (P := fun z => z = some r) g2 with ⟨g3, g4⟩ | ⟨g3, g4⟩
      · have g3 := ty_nn_t g3
        injection g4 with g4
        subst g4
        rw [if_pos (by omega)] at mk
        refine ⟨nd, ?_⟩
        rw [mk]
        exact ty_rr_id h ha
      · rcases ex_bif (P := fun z => z = some r) g4 with ⟨g5, g6⟩ | ⟨g5, g6⟩
        · have g5 := ty_le_t g5
          injection g6 with g6
          subst g6
          rw [if_neg (by omega)] at mk
          refine ⟨nd, ?_⟩
          rw [mk]
          have := ty_is_pl ha (c + 1)
          rw [show x.toInt + (c + 1) = x.toInt + 2 ^ k by omega] at this
          exact ty_rr_id h this
        · injection g6 with g6
          subst g6
          exact ha.1
    · exact ty_a_and1_ok h ha hb g2
  · exact ty_a_and1_ok h ha hb hr
theorem ty_pw_ok {n : Nat} {h : Int} (hn : (n : Int) ≤ h) (hh : h ≤ 2147483647) : ∃ k : Nat, k ≤ 31 ∧ n < 2 ^ k ∧ ty_pw h = ((2 ^ k - 1 : Nat) : Int) := by
  obtain ⟨m, rfl⟩ : ∃ m : Nat, h = (m : Int) := ⟨h.toNat, by omega⟩
  show ∃ k : Nat, k ≤ 31 ∧ n < 2 ^ k ∧ (bif Nat.beq m 0 then (0 : Int) else Int.ofNat (2 ^ (Nat.log2 m + 1) - 1)) = ((2 ^ k - 1 : Nat) : Int)
  cases hb : Nat.beq m 0 with
  | true =>
    have := ex_beq hb
    exact ⟨0, by omega, by omega, rfl⟩
  | false =>
    have h0 := ex_bne hb
    have h1 : m < 2 ^ (Nat.log2 m + 1) := Nat.lt_log2_self
    have h2 : Nat.log2 m < 31 := (Nat.log2_lt h0).mpr (by omega)
    exact ⟨Nat.log2 m + 1, by omega, by omega, rfl⟩
theorem ty_or_b {x y z : Int32} (hz : z.toBitVec.toNat = x.toBitVec.toNat ||| y.toBitVec.toNat ∨ z.toBitVec.toNat = x.toBitVec.toNat ^^^ y.toBitVec.toNat) (hx : 0 ≤ x.toInt) (hy : 0 ≤ y.toInt) {u v : Int} (h1 : x.toInt ≤ u) (h2 : y.toInt ≤ v) (h3 : u ≤ 2147483647) (h4 : v ≤ 2147483647) : 0 ≤ z.toInt ∧ z.toInt ≤ ty_mx (ty_pw u) (ty_pw v) := by
  have n1 := ty_N x
  have n2 := ty_N y
  have n3 := ty_N z
  rw [if_pos hx] at n1
  rw [if_pos hy] at n2
  obtain ⟨k, k1, k2, k3⟩ := ty_pw_ok (n := x.toBitVec.toNat) (h := u) (by omega) h3
  obtain ⟨j, j1, j2, j3⟩ := ty_pw_ok (n := y.toBitVec.toNat) (h := v) (by omega) h4
  have p1 : 2 ^ k ≤ 2 ^ max k j := Nat.pow_le_pow_right (by omega) (by omega)
  have p2 : 2 ^ j ≤ 2 ^ max k j := Nat.pow_le_pow_right (by omega) (by omega)
  have p3 : 2 ^ max k j ≤ 2 ^ 31 := Nat.pow_le_pow_right (by omega) (by omega)
  have p4 : z.toBitVec.toNat < 2 ^ max k j := by
    rcases hz with hz | hz <;> rw [hz]
    · exact Nat.or_lt_two_pow (by omega) (by omega)
    · exact Nat.xor_lt_two_pow (by omega) (by omega)
  have m := ty_mx_ge (ty_pw u) (ty_pw v)
  have r := ty_rg z
  have q : (z.toBitVec.toNat : Int) ≤ ty_mx (ty_pw u) (ty_pw v) := by
    rcases Nat.le_total k j with hkj | hkj
    · rw [Nat.max_eq_right hkj] at p4
      have m2 := m.2
      have m3 : ((2 ^ j - 1 : Nat) : Int) ≤ ty_mx (ty_pw u) (ty_pw v) := by rw [← j3]; exact m2
      omega
    · rw [Nat.max_eq_left hkj] at p4
      have m2 := m.1
      have m3 : ((2 ^ k - 1 : Nat) : Int) ≤ ty_mx (ty_pw u) (ty_pw v) := by rw [← k3]; exact m2
      omega
  split at n3 <;> omega
theorem ty_a_or_ok {o : Instr} {z : Int32} (ho : (o = .ior ∧ z = x ||| y) ∨ (o = .ixor ∧ z = x ^^^ y)) (h : ty_er ρ e) (ha : ty_is e.1 ρ a x.toInt) (hb : ty_is e.1 ρ b y.toInt) (hr : ty_a_or e a b = some r) : ty_an ρ e o y z r := by
  have nd : ((o = .idiv ∨ o = .irem) → ¬ y = 0) := by
    rcases ho with ⟨rfl, -⟩ | ⟨rfl, -⟩
    · exact ty_no (by decide) (by decide)
    · exact ty_no (by decide) (by decide)
  unfold ty_a_or at hr
  rcases ex_bif (P := fun z => z = some r) hr with ⟨g1, g2⟩ | ⟨g1, g2⟩
  · obtain ⟨g1, g3⟩ := ex_and g1
    have g1 := ty_nn_t g1
    have g3 := ty_nn_t g3
    have l1 := ty_lo_ok h.1 a
    have l2 := ty_hi_ok h.1 a
    rw [ha.2] at l1 l2
    have k1 := ty_lo_ok h.1 b
    have k2 := ty_hi_ok h.1 b
    rw [hb.2] at k1 k2
    injection g2 with g2
    subst g2
    refine ⟨nd, ?_⟩
    have hz : z.toBitVec.toNat = x.toBitVec.toNat ||| y.toBitVec.toNat ∨ z.toBitVec.toNat = x.toBitVec.toNat ^^^ y.toBitVec.toNat := by
      rcases ho with ⟨-, rfl⟩ | ⟨-, rfl⟩
      · exact Or.inl (by rw [Int32.toBitVec_or, BitVec.toNat_or])
      · exact Or.inr (by rw [Int32.toBitVec_xor, BitVec.toNat_xor])
    by_cases big : ty_hi e a ≤ 2147483647 ∧ ty_hi e b ≤ 2147483647
    · obtain ⟨q1, q2⟩ := ty_or_b hz (by omega) (by omega) l2 k2 big.1 big.2
      exact ty_res0 h q1 q2
    · -- a range above the ints: the answer is below it all the same
      have rx := ty_rg x
      have ry := ty_rg y
      obtain ⟨q1, q2⟩ := ty_or_b hz (by omega) (by omega) rx.2 ry.2 (Int.le_refl _) (Int.le_refl _)
      have m := ty_mx_ge (ty_pw (ty_hi e a)) (ty_pw (ty_hi e b))
      have pwb : ∀ w : Int, 2147483647 < w → (2147483647 : Int) ≤ ty_pw w := by
        intro w hw
        obtain ⟨m', rfl⟩ : ∃ m' : Nat, w = (m' : Int) := ⟨w.toNat, by omega⟩
        show (2147483647 : Int) ≤ (bif Nat.beq m' 0 then (0 : Int) else Int.ofNat (2 ^ (Nat.log2 m' + 1) - 1))
        cases hb : Nat.beq m' 0 with
        | true => have := ex_beq hb; omega
        | false =>
          have h1 : m' < 2 ^ (Nat.log2 m' + 1) := Nat.lt_log2_self
          show (2147483647 : Int) ≤ ((2 ^ (Nat.log2 m' + 1) - 1 : Nat) : Int)
          omega
      have t : ty_mx (ty_pw 2147483647) (ty_pw 2147483647) = 2147483647 := by decide
      rw [t] at q2
      refine ty_res0 h q1 ?_
      by_cases w : 2147483647 < ty_hi e a
      · have := pwb _ w; omega
      · have := pwb (ty_hi e b) (by omega); omega
  · injection g2 with g2
    subst g2
    exact ⟨nd, ty_full_ok h _⟩
theorem ty_one_shl : ∀ j, j < 31 → ((1 : Int32) <<< (nI j &&& 31)).toInt = 2 ^ j := by decide
theorem ty_asI {x : Int32} {j : Nat} (h : x.toInt = (j : Int)) (hj : j < 2 ^ 31) : x = nI j := Int32.toInt_inj.mp (by rw [nI_toInt hj]; exact h)
theorem ty_a_shl_ok (h : ty_er ρ e) (ha : ty_is e.1 ρ a x.toInt) (hb : ty_is e.1 ρ b y.toInt) (hr : ty_a_shl e a b = some r) : ty_an ρ e .ishl y (x <<< (y &&& 31)) r := by
  have nd : ((Instr.ishl = .idiv ∨ Instr.ishl = .irem) → ¬ y = 0) := ty_no (by decide) (by decide)
  unfold ty_a_shl at hr
  split at hr
  · rename_i c hc
    have ec := ty_cst_ok h hc
    rw [ha.2] at ec
    rcases ex_bif (P := fun z => z = some r) hr with ⟨g1, g2⟩ | ⟨g1, g2⟩
    · obtain ⟨g1, c3⟩ := ex_and g1
      obtain ⟨c1, c2⟩ := ex_and g1
      have c1 := ty_0_t c1
      have c2 := ty_nn_t c2
      have c3 := ty_le_t c3
      have k1 := ty_lo_ok h.1 b
      have k2 := ty_hi_ok h.1 b
      rw [hb.2] at k1 k2
      injection g2 with g2
      subst g2
      obtain ⟨j, hj⟩ : ∃ j : Nat, y.toInt = (j : Int) := ⟨y.toInt.toNat, by omega⟩
      have ex : x = 1 := ty_asI (j := 1) (by omega) (by decide)
      have ey : y = nI j := ty_asI hj (by omega)
      refine ⟨nd, ?_⟩
      have v : (x <<< (y &&& 31)).toInt = 2 ^ j := by rw [ex, ey]; exact ty_one_shl j (by omega)
      rw [v]
      have q1 : (2 ^ (ty_lo e b).toNat : Int) ≤ 2 ^ j := by
        have : 2 ^ (ty_lo e b).toNat ≤ 2 ^ j := Nat.pow_le_pow_right (by omega) (by omega)
        exact_mod_cast this
      have q2 : (2 ^ j : Int) ≤ 2 ^ (ty_hi e b).toNat := by
        have : 2 ^ j ≤ 2 ^ (ty_hi e b).toNat := Nat.pow_le_pow_right (by omega) (by omega)
        exact_mod_cast this
      exact ty_res0 h q1 q2
    · injection g2 with g2
      subst g2
      exact ⟨nd, ty_full_ok h _⟩
  · injection hr with hr
    subst hr
    exact ⟨nd, ty_full_ok h _⟩
theorem ty_shk : ∀ j, j < 32 → ((nI j &&& 31).toBitVec.smod 32).toNat = j := by decide
theorem ty_a_shr_ok (h : ty_er ρ e) (ha : ty_is e.1 ρ a x.toInt) (hb : ty_is e.1 ρ b y.toInt) (hr : ty_a_shr e a b = some r) : ty_an ρ e .ishr y (x >>> (y &&& 31)) r := by
  have nd : ((Instr.ishr = .idiv ∨ Instr.ishr = .irem) → ¬ y = 0) := ty_no (by decide) (by decide)
  unfold ty_a_shr at hr
  split at hr
  · rename_i c hc
    have ec := ty_cst_ok h hc
    rw [hb.2] at ec
    rcases ex_bif (P := fun z => z = some r) hr with ⟨g1, g2⟩ | ⟨g1, g2⟩
    · obtain ⟨g1, c3⟩ := ex_and g1
      obtain ⟨c1, c2⟩ := ex_and g1
      have c1 := ty_nn_t c1
      have c2 := ty_le_t c2
      have c3 := ty_nn_t c3
      have l1 := ty_lo_ok h.1 a
      have l2 := ty_hi_ok h.1 a
      rw [ha.2] at l1 l2
      injection g2 with g2
      subst g2
      obtain ⟨j, rfl⟩ : ∃ j : Nat, c = (j : Int) := ⟨c.toNat, by omega⟩
      have ey : y = nI j := ty_asI ec (by omega)
      refine ⟨nd, ?_⟩
      have v : (x >>> (y &&& 31)).toInt = x.toInt / 2 ^ j := by
        rw [ey, pk_shr x (nI j &&& 31) j (ty_shk j (by omega)), Int.shiftRight_eq_div_pow]
        rfl
      rw [v]
      have p : (0 : Int) < 2 ^ j := by
        have : 0 < 2 ^ j := Nat.two_pow_pos j
        exact_mod_cast this
      exact ty_res0 h (Int.ediv_le_ediv p l1) (Int.ediv_le_ediv p l2)
    · injection g2 with g2
      subst g2
      exact ⟨nd, ty_full_ok h _⟩
  · injection hr with hr
    subst hr
    exact ⟨nd, ty_full_ok h _⟩
theorem ty_ar_ok {o : Instr} {z : Int32} (h : ty_er ρ e) (ha : ty_is e.1 ρ a x.toInt) (hb : ty_is e.1 ρ b y.toInt) (hz : ty_bv o x y = some z) (hr : ty_ar o e a b = some r) : ty_an ρ e o y z r := by
  cases o <;> first | (cases hz; done) | skip
  all_goals (injection hz with hz; subst hz)
  all_goals first
    | exact ty_a_add_ok h ha hb hr
    | exact ty_a_sub_ok h ha hb hr
    | exact ty_a_mul_ok h ha hb hr
    | exact ty_a_div_ok h ha hb hr
    | exact ty_a_rem_ok h ha hb hr
    | exact ty_a_and_ok h ha hb hr
    | exact ty_a_or_ok (Or.inl ⟨rfl, rfl⟩) h ha hb hr
    | exact ty_a_or_ok (Or.inr ⟨rfl, rfl⟩) h ha hb hr
    | exact ty_a_shl_ok h ha hb hr
    | exact ty_a_shr_ok h ha hb hr
    | (injection (show some (Sum.inr (Sum.inr (ty_full e))) = some r from hr) with hr; subst hr; exact ⟨ty_no (by decide) (by decide), ty_full_ok h _⟩)
end TYO
end
