/-! A checked executor: states with ints known, named or held in a range; cells by number; every step is shown to keep what it says of the machine. An int x is written as ex_u x, its number above the least int. -/
abbrev ex_V : Type := (Nat ⊕ (Nat ⊕ (Nat × Nat))) ⊕ (Option Nat ⊕ (Int64 ⊕ Unit))
abbrev ex_C : Type := (Nat × List ex_V) ⊕ (Nat × Nat × List (Nat × ex_V))
abbrev ex_E : Type := List (Nat × Nat)
abbrev ex_P : Type := Nat × Instr × Nat × Nat × Nat × Nat × List Nat
abbrev ex_L : Type := List (Nat × ex_V)
abbrev ex_H : Type := List (List ex_C)
abbrev ex_S : Type := List ex_P × ex_L × List ex_V × ex_H × Nat × Nat × Nat
abbrev ex_M : Type := List ex_P × Nat × Nat × Nat × Nat
abbrev ex_k (n : Nat) : ex_V := .inl (.inl n)
abbrev ex_v (i : Nat) : ex_V := .inl (.inr (.inl i))
abbrev ex_r (a b : Nat) : ex_V := .inl (.inr (.inr (a, b)))
abbrev ex_a (r : Option Nat) : ex_V := .inr (.inl r)
abbrev ex_j (x : Int64) : ex_V := .inr (.inr (.inl x))
abbrev ex_z : ex_V := .inr (.inr (.inr ()))
abbrev ex_full : ex_V := ex_r 0 4294967295
noncomputable def ex_nth {α : Type} (l : List α) : Nat → Option α := List.rec (motive := fun _ => Nat → Option α) (fun _ => none) (fun a _ ih k => Nat.rec (motive := fun _ => Option α) (some a) (fun k' _ => ih k') k) l
noncomputable def ex_set {α : Type} (l : List α) : Nat → α → List α := List.rec (motive := fun _ => Nat → α → List α) (fun _ _ => []) (fun a t ih k v => Nat.rec (motive := fun _ => List α) (v :: t) (fun k' _ => a :: ih k' v) k) l
noncomputable def ex_lk {α : Type} (l : List (Nat × α)) (i : Nat) : Option α := List.rec (motive := fun _ => Option α) none (fun q _ ih => bif Nat.beq q.1 i then some q.2 else ih) l
noncomputable def ex_ovset (l : List (Nat × ex_V)) (i : Nat) (v : ex_V) : List (Nat × ex_V) := List.rec (motive := fun _ => List (Nat × ex_V)) [(i, v)] (fun q t ih => bif Nat.beq q.1 i then (i, v) :: t else q :: ih) l
noncomputable def ex_get (h : ex_H) (k : Nat) : Option ex_C := match ex_nth h (k / 32) with
  | some ch => ex_nth ch (k % 32)
  | none => none
noncomputable def ex_put (h : ex_H) (k : Nat) (c : ex_C) : ex_H := match ex_nth h (k / 32) with
  | some ch => ex_set h (k / 32) (ex_set ch (k % 32) c)
  | none => h
noncomputable def ex_len {α : Type} (l : List α) : Nat := List.rec (motive := fun _ => Nat) 0 (fun _ _ ih => ih + 1) l
noncomputable def ex_app {α : Type} (l r : List α) : List α := List.rec (motive := fun _ => List α) r (fun a _ ih => a :: ih) l
noncomputable def ex_push (h : ex_H) (n : Nat) (c : ex_C) : Option ex_H := bif Nat.beq (n % 32) 0 then (bif Nat.beq (ex_len h) (n / 32) then some (ex_app h [[c]]) else none) else (match ex_nth h (n / 32) with
  | some ch => bif Nat.beq (ex_len ch) (n % 32) then some (ex_set h (n / 32) (ex_app ch [c])) else none
  | none => none)
noncomputable def ex_b (en : ex_E) (v : ex_V) : Option (Nat × Nat) := match v with
  | .inl (.inl n) => some (n, n)
  | .inl (.inr (.inl i)) => ex_nth en i
  | .inl (.inr (.inr q)) => some q
  | .inr _ => none
noncomputable def ex_cst (en : ex_E) (v : ex_V) : Option Nat := match ex_b en v with
  | some q => bif Nat.beq q.1 q.2 then some q.1 else none
  | none => none
def ex_mx (a b : Nat) : Nat := bif Nat.ble a b then b else a
def ex_mn (a b : Nat) : Nat := bif Nat.ble a b then a else b
noncomputable def ex_rf (en : ex_E) (v : ex_V) (lo hi : Nat) : Option ex_E := match v with
  | .inl (.inl n) => bif Nat.ble lo n && Nat.ble n hi then some en else none
  | .inl (.inr (.inl i)) => (match ex_nth en i with
    | some q => bif Nat.ble (ex_mx q.1 lo) (ex_mn q.2 hi) then some (ex_set en i (ex_mx q.1 lo, ex_mn q.2 hi)) else none
    | none => some en)
  | .inl (.inr (.inr q)) => bif Nat.ble (ex_mx q.1 lo) (ex_mn q.2 hi) then some en else none
  | .inr _ => some en
noncomputable def ex_2 (en : ex_E) (a : ex_V) (la ha : Nat) (b : ex_V) (lb hb : Nat) : List ex_E := match ex_rf en a la ha with
  | none => []
  | some e => (match ex_rf e b lb hb with
    | none => []
    | some e' => [e'])
noncomputable def ex_1 (en : ex_E) (a : ex_V) (la ha : Nat) : List ex_E := match ex_rf en a la ha with
  | none => []
  | some e => [e]
def ex_same (a b : ex_V) : Bool := match a, b with
  | .inl (.inr (.inl i)), .inl (.inr (.inl j)) => Nat.beq i j
  | _, _ => false
noncomputable def ex_lt (en : ex_E) (a b : ex_V) (qa qb : Nat × Nat) : List ex_E := bif ex_same a b then [] else ex_2 en a 0 (qb.2 - 1) b (qa.1 + 1) 4294967295
noncomputable def ex_ge (en : ex_E) (a b : ex_V) (qa qb : Nat × Nat) : List ex_E := ex_2 en a qb.1 4294967295 b 0 qa.2
noncomputable def ex_eq (en : ex_E) (a b : ex_V) (qa qb : Nat × Nat) : List ex_E := ex_2 en a qb.1 qb.2 b qa.1 qa.2
noncomputable def ex_ne (en : ex_E) (a b : ex_V) (qa qb : Nat × Nat) : List ex_E := bif ex_same a b then [] else
  bif Nat.beq qb.1 qb.2 then ex_app (ex_1 en a 0 (qb.1 - 1)) (ex_1 en a (qb.1 + 1) 4294967295) else
  bif Nat.beq qa.1 qa.2 then ex_app (ex_1 en b 0 (qa.1 - 1)) (ex_1 en b (qa.1 + 1) 4294967295) else [en]
noncomputable def ex_br (c : ClassFile.Cond) (en : ex_E) (a b : ex_V) : Option (List ex_E × List ex_E) := match ex_b en a with
  | none => none
  | some qa => (match ex_b en b with
    | none => none
    | some qb => (match c with
      | .eq => some (ex_eq en a b qa qb, ex_ne en a b qa qb)
      | .ne => some (ex_ne en a b qa qb, ex_eq en a b qa qb)
      | .lt => some (ex_lt en a b qa qb, ex_ge en a b qa qb)
      | .ge => some (ex_ge en a b qa qb, ex_lt en a b qa qb)
      | .gt => some (ex_lt en b a qb qa, ex_ge en b a qb qa)
      | .le => some (ex_ge en b a qb qa, ex_lt en b a qb qa)))
noncomputable def ex_ft (q : ex_P) (r : List ex_P) (en : ex_E) (lv : ex_L) (st : List ex_V) (h : ex_H) (n cc ss : Nat) : Option (List (ex_E × ex_S)) := match r with
  | [] => none
  | q' :: r' => bif Nat.beq q'.1 (q.1 + q.2.2.1) then some [(en, (q' :: r', lv, st, h, n, cc, ss))] else none
noncomputable def ex_jp (pr : List ex_P) (t : Nat) : List ex_P := List.rec (motive := fun _ => List ex_P) [] (fun q r ih => bif Nat.beq q.1 t then q :: r else ih) pr
noncomputable def ex_map {α β : Type} (f : α → β) (l : List α) : List β := List.rec (motive := fun _ => List β) [] (fun a _ ih => f a :: ih) l
def ex_isI (v : ex_V) : Bool := match v with
  | .inl _ => true
  | .inr _ => false
def ex_isR (v : ex_V) : Bool := match v with
  | .inr (.inl _) => true
  | .inr (.inr (.inr _)) => true
  | _ => false
def ex_cat (v : ex_V) : Nat := match v with
  | .inr (.inr (.inl _)) => 2
  | _ => 1
noncomputable def ex_del (lv : ex_L) (i : Nat) : ex_L := List.rec (motive := fun _ => ex_L) [] (fun q _ ih => bif (!(Nat.beq q.1 i) && !(Nat.beq (q.1 + 1) i && Nat.beq (ex_cat q.2) 2)) then q :: ih else ih) lv
/-- an int that may take at most 65 values, by name -/
noncomputable def ex_need (en : ex_E) (v : ex_V) : Option Nat := match v with
  | .inl (.inr (.inl i)) => (match ex_nth en i with
    | some q => bif Nat.ble (q.1 + 1) q.2 && Nat.ble q.2 (q.1 + 64) then some i else none
    | none => none)
  | _ => none
noncomputable def ex_range (n lo : Nat) : List Nat := Nat.rec (motive := fun _ => Nat → List Nat) (fun _ => []) (fun _ ih lo => lo :: ih (lo + 1)) n lo
noncomputable def ex_spl (en : ex_E) (i : Nat) (s : ex_S) : Option (List (ex_E × ex_S)) := match ex_nth en i with
  | some q => some (ex_map (fun x => (ex_set en i (x, x), s)) (ex_range (q.2 - q.1 + 1) q.1))
  | none => none
def ex_t (u : Nat) : Nat := (u + 2147483648) % 4294967296
noncomputable def ex_op (o : Instr) (en : ex_E) (a b : ex_V) : Option ex_V := match ex_cst en a, ex_cst en b with
  | some x, some y => (match o with
    | .iadd => some (ex_k ((x + y + 2147483648) % 4294967296))
    | .isub => some (ex_k ((x + 6442450944 - y) % 4294967296))
    | .imul => some (ex_k (ex_t (ex_t x * ex_t y % 4294967296)))
    | .iand => some (ex_k (ex_t (Nat.land (ex_t x) (ex_t y))))
    | .ior => some (ex_k (ex_t (Nat.lor (ex_t x) (ex_t y))))
    | .ixor => some (ex_k (ex_t (Nat.xor (ex_t x) (ex_t y))))
    | .ishl => bif Nat.beq y 2147483648 then some (ex_k x) else some ex_full
    | .idiv => bif Nat.ble 2147483648 x && Nat.ble 2147483649 y then some (ex_k ((x - 2147483648) / (y - 2147483648) + 2147483648)) else none
    | .irem => bif Nat.ble 2147483648 x && Nat.ble 2147483649 y then some (ex_k ((x - 2147483648) % (y - 2147483648) + 2147483648)) else none
    | .ishr => some ex_full
    | _ => none)
  | none, some y => (match o with
    | .iadd => bif Nat.beq y 2147483648 && ex_isI a then some a else some ex_full
    | .iand => bif Nat.ble 2147483648 y then some (ex_r 2147483648 y) else some ex_full
    | .idiv => none
    | .irem => none
    | _ => some ex_full)
  | some x, none => (match o with
    | .iadd => bif Nat.beq x 2147483648 && ex_isI b then some b else some ex_full
    | .idiv => none
    | .irem => none
    | _ => some ex_full)
  | none, none => (match o with
    | .idiv => none
    | .irem => none
    | _ => some ex_full)
noncomputable def ex_bin (q : ex_P) (r : List ex_P) (en : ex_E) (lv : ex_L) (st : List ex_V) (h : ex_H) (n cc ss : Nat) : Option (List (ex_E × ex_S)) := match st with
  | b :: a :: rest => bif ex_isI a && ex_isI b then (match ex_need en a with
    | some i => ex_spl en i (q :: r, lv, st, h, n, cc, ss)
    | none => (match ex_need en b with
      | some i => ex_spl en i (q :: r, lv, st, h, n, cc, ss)
      | none => (match ex_op q.2.1 en a b with
        | some v => ex_ft q r en lv (v :: rest) h n cc ss
        | none => none))) else none
  | _ => none
noncomputable def ex_ifs (pr : List ex_P) (q : ex_P) (r : List ex_P) (c : ClassFile.Cond) (en : ex_E) (lv : ex_L) (a b : ex_V) (rest : List ex_V) (h : ex_H) (n cc ss : Nat) : Option (List (ex_E × ex_S)) := match ex_br c en a b with
  | none => none
  | some tf => (match tf.2 with
    | [] => some (ex_map (fun e => (e, (ex_jp pr q.2.2.2.1, lv, rest, h, n, cc, ss))) tf.1)
    | f0 :: fs => (match r with
      | [] => none
      | q' :: r' => bif Nat.beq q'.1 (q.1 + q.2.2.1) then some (ex_app (ex_map (fun e => (e, (ex_jp pr q.2.2.2.1, lv, rest, h, n, cc, ss))) tf.1) (ex_map (fun e => (e, (q' :: r', lv, rest, h, n, cc, ss))) (f0 :: fs))) else none))
noncomputable def ex_ld (q : ex_P) (r : List ex_P) (en : ex_E) (lv : ex_L) (st : List ex_V) (h : ex_H) (n cc ss : Nat) (ok : ex_V → Bool) : Option (List (ex_E × ex_S)) := match ex_lk lv q.2.2.2.1 with
  | some v => bif ok v then ex_ft q r en lv (v :: st) h n cc ss else none
  | none => none
noncomputable def ex_st (mL : Nat) (q : ex_P) (r : List ex_P) (en : ex_E) (lv : ex_L) (st : List ex_V) (h : ex_H) (n cc ss : Nat) (ok : ex_V → Bool) : Option (List (ex_E × ex_S)) := match st with
  | v :: rest => bif ok v && Nat.blt q.2.2.2.1 mL then ex_ft q r en ((q.2.2.2.1, v) :: ex_del lv q.2.2.2.1) rest h n cc ss else none
  | [] => none
noncomputable def ex_ov (t : Nat) (ov : List (Nat × ex_V)) (j : Nat) : ex_V := match ex_lk ov j with
  | some v => v
  | none => bif Nat.beq t 2 then ex_j 0 else bif Nat.beq t 4 then ex_a none else ex_k 2147483648
/-- a row's place: what it is split by, or its number -/
noncomputable def ex_ix (en : ex_E) (i : ex_V) (n : Nat) : Option Nat := match ex_cst en i with
  | some u => bif Nat.ble 2147483648 u && Nat.blt (u - 2147483648) n then some (u - 2147483648) else none
  | none => none
noncomputable def ex_ald (isl : Bool) (L : Nat) (ok : Nat → Bool) (q : ex_P) (r : List ex_P) (en : ex_E) (lv : ex_L) (st : List ex_V) (h : ex_H) (n cc ss : Nat) : Option (List (ex_E × ex_S)) := match st with
  | i :: .inr (.inl (some o)) :: rest => (match ex_need en i with
    | some x => ex_spl en x (q :: r, lv, st, h, n, cc, ss)
    | none => (match ex_get h o with
      | some (.inr (t, N, ov)) => (match ex_ix en i N with
        | some j => bif ok t && ex_isI i then ex_ft q r en lv (ex_ov t ov j :: rest) h n cc ss else none
        | none => none)
      | _ => none))
  | i :: .inr (.inr (.inr ())) :: rest => (match ex_ix en i L with
    | some j => bif isl && ok 0 && ex_isI i then ex_ft q r en lv (ex_v j :: rest) h n cc ss else none
    | none => none)
  | _ => none
noncomputable def ex_ast (q : ex_P) (r : List ex_P) (en : ex_E) (lv : ex_L) (st : List ex_V) (h : ex_H) (n cc ss : Nat) (ok : Nat → ex_V → Option ex_V) : Option (List (ex_E × ex_S)) := match st with
  | v :: i :: .inr (.inl (some o)) :: rest => (match ex_need en i with
    | some x => ex_spl en x (q :: r, lv, st, h, n, cc, ss)
    | none => (match ex_get h o with
      | some (.inr (t, N, ov)) => (match ex_ix en i N with
        | some j => (match ok t v with
          | some v' => bif ex_isI i then ex_ft q r en lv rest (ex_put h o (.inr (t, N, ex_ovset ov j v'))) n cc ss else none
          | none => none)
        | none => none)
      | _ => none))
  | _ => none
def ex_oki (t : Nat) (v : ex_V) : Option ex_V := bif Nat.beq t 0 && ex_isI v then some v else none
def ex_okj (t : Nat) (v : ex_V) : Option ex_V := match v with
  | .inr (.inr (.inl x)) => bif Nat.beq t 2 then some v else none
  | _ => none
noncomputable def ex_okb (en : ex_E) (t : Nat) (v : ex_V) : Option ex_V := bif Nat.beq t 1 && ex_isI v then some ex_full else bif Nat.beq t 3 then (match ex_cst en v with
  | some u => bif Nat.beq u 2147483648 || Nat.beq u 2147483649 then some (ex_k u) else none
  | none => none) else none
/-- only objects of class 4 go into rows of references -/
noncomputable def ex_okq (h : ex_H) (t : Nat) (v : ex_V) : Option ex_V := match v with
  | .inr (.inl (some o)) => (match ex_get h o with
    | some (.inl (ci, _)) => bif Nat.beq t 4 && Nat.beq ci 4 then some v else none
    | _ => none)
  | _ => none
noncomputable def ex_gf (q : ex_P) (r : List ex_P) (en : ex_E) (lv : ex_L) (st : List ex_V) (h : ex_H) (n cc ss : Nat) : Option (List (ex_E × ex_S)) := match st with
  | .inr (.inl (some o)) :: rest => (match ex_get h o with
    | some (.inl (ci, fs)) => (match ex_nth fs q.2.2.2.2.1 with
      | some v => bif Nat.beq ci q.2.2.2.1 then ex_ft q r en lv (v :: rest) h n cc ss else none
      | none => none)
    | _ => none)
  | _ => none
noncomputable def ex_okf (en : ex_E) (ty : Nat) (v : ex_V) : Bool := bif Nat.beq ty 0 then ex_isI v else bif Nat.beq ty 1 then (match v with
  | .inr (.inl _) => true
  | _ => false) else bif Nat.beq ty 2 then (match ex_cst en v with
  | some u => Nat.beq u 2147483648 || Nat.beq u 2147483649
  | none => false) else false
noncomputable def ex_pf (q : ex_P) (r : List ex_P) (en : ex_E) (lv : ex_L) (st : List ex_V) (h : ex_H) (n cc ss : Nat) : Option (List (ex_E × ex_S)) := match st with
  | v :: .inr (.inl (some o)) :: rest => (match ex_get h o with
    | some (.inl (ci, fs)) => (match ex_nth fs q.2.2.2.2.1 with
      | some _ => bif Nat.beq ci q.2.2.2.1 && ex_okf en q.2.2.2.2.2.1 v then ex_ft q r en lv rest (ex_put h o (.inl (ci, ex_set fs q.2.2.2.2.1 v))) n cc ss else none
      | none => none)
    | _ => none)
  | _ => none
noncomputable def ex_nw (cap : Nat × Nat) (df : Nat → List ex_V) (q : ex_P) (r : List ex_P) (en : ex_E) (lv : ex_L) (st : List ex_V) (h : ex_H) (n cc ss : Nat) : Option (List (ex_E × ex_S)) := match ex_push h n (.inl (q.2.2.2.1, df q.2.2.2.1)) with
  | some h' => bif Nat.ble (cc + 1) cap.1 && Nat.ble (ss + q.2.2.2.2.1) cap.2 then ex_ft q r en lv (ex_a (some n) :: st) h' (n + 1) (cc + 1) (ss + q.2.2.2.2.1) else none
  | none => none
noncomputable def ex_na (cap : Nat × Nat) (q : ex_P) (r : List ex_P) (en : ex_E) (lv : ex_L) (st : List ex_V) (h : ex_H) (n cc ss : Nat) : Option (List (ex_E × ex_S)) := match st with
  | i :: rest => (match ex_ix en i 100000 with
    | some N => (match ex_push h n (.inr (q.2.2.2.1, N, [])) with
      | some h' => bif ex_isI i && Nat.ble (cc + 1) cap.1 && Nat.ble (ss + N) cap.2 then ex_ft q r en lv (ex_a (some n) :: rest) h' (n + 1) (cc + 1) (ss + N) else none
      | none => none)
    | none => none)
  | _ => none
noncomputable def ex_al (isl : Bool) (L : Nat) (q : ex_P) (r : List ex_P) (en : ex_E) (lv : ex_L) (st : List ex_V) (h : ex_H) (n cc ss : Nat) : Option (List (ex_E × ex_S)) := match st with
  | .inr (.inl (some o)) :: rest => (match ex_get h o with
    | some (.inr (_, N, _)) => bif Nat.ble N 100000 then ex_ft q r en lv (ex_k (N + 2147483648) :: rest) h n cc ss else none
    | _ => none)
  | .inr (.inr (.inr ())) :: rest => bif isl && Nat.ble L 100000 then ex_ft q r en lv (ex_k (L + 2147483648) :: rest) h n cc ss else none
  | _ => none
noncomputable def ex_cp (a b : List (Nat × ex_V)) (t sp dp m : Nat) : List (Nat × ex_V) := Nat.rec (motive := fun _ => List (Nat × ex_V)) b (fun k ih => ex_ovset ih (dp + k) (ex_ov t a (sp + k))) m
noncomputable def ex_acp (q : ex_P) (r : List ex_P) (en : ex_E) (lv : ex_L) (st : List ex_V) (h : ex_H) (n cc ss : Nat) : Option (List (ex_E × ex_S)) := match st with
  | m :: dp :: .inr (.inl (some d)) :: sp :: .inr (.inl (some o)) :: rest => (match ex_get h o, ex_get h d with
    | some (.inr (t, N, ov)), some (.inr (t', N', ov')) => (match ex_ix en m 100000, ex_ix en sp 100000, ex_ix en dp 100000 with
      | some m', some s', some d' => bif Nat.beq t 0 && Nat.beq t' 0 && Nat.ble (s' + m') N && Nat.ble (d' + m') N' && ex_isI m && ex_isI sp && ex_isI dp && Nat.ble (ex_len rest) 4 then ex_ft q r en lv rest (ex_put h d (.inr (t', N', ex_cp ov ov' 0 s' d' m'))) n cc ss else none
      | _, _, _ => none)
    | _, _ => none)
  | _ => none
noncomputable def ex_sw (pr : List ex_P) (q : ex_P) (en : ex_E) (lv : ex_L) (v : ex_V) (rest : List ex_V) (h : ex_H) (n cc ss : Nat) (ts : List Nat) (lo : Nat) : List (ex_E × ex_S) := List.rec (motive := fun _ => Nat → List (ex_E × ex_S)) (fun lo => ex_map (fun e => (e, (ex_jp pr q.2.2.2.1, lv, rest, h, n, cc, ss))) (ex_1 en v lo 4294967295)) (fun t _ ih lo => ex_app (ex_map (fun e => (e, (ex_jp pr t, lv, rest, h, n, cc, ss))) (ex_1 en v lo lo)) (ih (lo + 1))) ts lo
noncomputable def ex_lu (pr : List ex_P) (q : ex_P) (lv : ex_L) (v : ex_V) (rest : List ex_V) (h : ex_H) (n cc ss : Nat) (ts : List Nat) : ex_E → Option (List (ex_E × ex_S)) := fun en => match ts with
  | [k0, t0, k1, t1] => (match ex_b en v with
    | some qa => some (ex_app (ex_map (fun e => (e, (ex_jp pr t0, lv, rest, h, n, cc, ss))) (ex_1 en v k0 k0)) (ex_app (ex_map (fun e => (e, (ex_jp pr t1, lv, rest, h, n, cc, ss))) (ex_1 en v k1 k1)) (bif Nat.beq (k0 + 1) k1 then ex_app (ex_map (fun e => (e, (ex_jp pr q.2.2.2.1, lv, rest, h, n, cc, ss))) (ex_1 en v 0 (k0 - 1))) (ex_map (fun e => (e, (ex_jp pr q.2.2.2.1, lv, rest, h, n, cc, ss))) (ex_1 en v (k1 + 1) 4294967295)) else ex_map (fun e => (e, (ex_jp pr q.2.2.2.1, lv, rest, h, n, cc, ss))) [en])))
    | none => none)
  | _ => none
def ex_bz (t : Nat) : Bool := Nat.beq t 1 || Nat.beq t 3
noncomputable def ex_step (pr : List ex_P) (isl : Bool) (L mL : Nat) (cap : Nat × Nat) (df : Nat → List ex_V) (en : ex_E) (q : ex_P) (r : List ex_P) (lv : ex_L) (st : List ex_V) (h : ex_H) (n cc ss : Nat) : Option (List (ex_E × ex_S)) := match q.2.1 with
  | .iconst _ => ex_ft q r en lv (ex_k q.2.2.2.1 :: st) h n cc ss
  | .bipush _ => ex_ft q r en lv (ex_k q.2.2.2.1 :: st) h n cc ss
  | .sipush _ => ex_ft q r en lv (ex_k q.2.2.2.1 :: st) h n cc ss
  | .ldc _ => ex_ft q r en lv (ex_k q.2.2.2.1 :: st) h n cc ss
  | .ldc_w _ => ex_ft q r en lv (ex_k q.2.2.2.1 :: st) h n cc ss
  | .lconst _ => ex_ft q r en lv (ex_j (Int64.ofNat q.2.2.2.1) :: st) h n cc ss
  | .iload_n _ => ex_ld q r en lv st h n cc ss ex_isI
  | .iload _ => ex_ld q r en lv st h n cc ss ex_isI
  | .aload_n _ => ex_ld q r en lv st h n cc ss ex_isR
  | .aload _ => ex_ld q r en lv st h n cc ss ex_isR
  | .istore_n _ => ex_st mL q r en lv st h n cc ss ex_isI
  | .istore _ => ex_st mL q r en lv st h n cc ss ex_isI
  | .astore_n _ => ex_st mL q r en lv st h n cc ss ex_isR
  | .astore _ => ex_st mL q r en lv st h n cc ss ex_isR
  | .iinc _ _ => (match ex_lk lv q.2.2.2.1 with
    | some v => (match ex_cst en v with
      | some u => bif ex_isI v && Nat.blt q.2.2.2.1 mL then ex_ft q r en ((q.2.2.2.1, ex_k ((u + q.2.2.2.2.1) % 4294967296)) :: ex_del lv q.2.2.2.1) st h n cc ss else none
      | none => none)
    | none => none)
  | .iadd => ex_bin q r en lv st h n cc ss
  | .isub => ex_bin q r en lv st h n cc ss
  | .imul => ex_bin q r en lv st h n cc ss
  | .iand => ex_bin q r en lv st h n cc ss
  | .ior => ex_bin q r en lv st h n cc ss
  | .ixor => ex_bin q r en lv st h n cc ss
  | .ishl => ex_bin q r en lv st h n cc ss
  | .ishr => ex_bin q r en lv st h n cc ss
  | .idiv => ex_bin q r en lv st h n cc ss
  | .irem => ex_bin q r en lv st h n cc ss
  | .i2b => (match st with
    | v :: rest => bif ex_isI v then ex_ft q r en lv (ex_full :: rest) h n cc ss else none
    | [] => none)
  | .dup => (match st with
    | v :: rest => bif Nat.beq (ex_cat v) 1 then ex_ft q r en lv (v :: v :: rest) h n cc ss else none
    | [] => none)
  | .dup2 => (match st with
    | v :: w :: rest => bif Nat.beq (ex_cat v) 1 && Nat.beq (ex_cat w) 1 then ex_ft q r en lv (v :: w :: v :: w :: rest) h n cc ss else none
    | _ => none)
  | .pop => (match st with
    | v :: rest => bif Nat.beq (ex_cat v) 1 then ex_ft q r en lv rest h n cc ss else none
    | [] => none)
  | .goto _ => some [(en, (ex_jp pr q.2.2.2.1, lv, st, h, n, cc, ss))]
  | .ifCond c _ => (match st with
    | a :: rest => ex_ifs pr q r c en lv a (ex_k 2147483648) rest h n cc ss
    | [] => none)
  | .if_icmp c _ => (match st with
    | b :: a :: rest => ex_ifs pr q r c en lv a b rest h n cc ss
    | _ => none)
  | .tableswitch _ _ _ _ => (match st with
    | v :: rest => bif ex_isI v then some (ex_app (ex_map (fun e => (e, (ex_jp pr q.2.2.2.1, lv, rest, h, n, cc, ss))) (ex_1 en v 0 (q.2.2.2.2.1 - 1))) (ex_sw pr q en lv v rest h n cc ss q.2.2.2.2.2.2 q.2.2.2.2.1)) else none
    | [] => none)
  | .lookupswitch _ _ => (match st with
    | v :: rest => bif ex_isI v then ex_lu pr q lv v rest h n cc ss q.2.2.2.2.2.2 en else none
    | [] => none)
  | .getfield _ => ex_gf q r en lv st h n cc ss
  | .putfield _ => ex_pf q r en lv st h n cc ss
  | .new _ => ex_nw cap df q r en lv st h n cc ss
  | .newarray _ => ex_na cap q r en lv st h n cc ss
  | .anewarray _ => ex_na cap q r en lv st h n cc ss
  | .arraylength => ex_al isl L q r en lv st h n cc ss
  | .iaload => ex_ald isl L (fun t => Nat.beq t 0) q r en lv st h n cc ss
  | .baload => ex_ald false L ex_bz q r en lv st h n cc ss
  | .aaload => ex_ald false L (fun t => Nat.beq t 4) q r en lv st h n cc ss
  | .iastore => ex_ast q r en lv st h n cc ss ex_oki
  | .bastore => ex_ast q r en lv st h n cc ss (ex_okb en)
  | .lastore => ex_ast q r en lv st h n cc ss ex_okj
  | .aastore => ex_ast q r en lv st h n cc ss (ex_okq h)
  | .invokestatic _ => ex_acp q r en lv st h n cc ss
  | .invokespecial _ => (match st with
    | .inr (.inl (some _)) :: rest => bif Nat.ble (ex_len rest) 4 then ex_ft q r en lv rest h n cc ss else none
    | _ => none)
  | _ => none
/-- a number for each instruction, so that the way is found by compares of numbers -/
def ex_tag (o : Instr) : Nat := match o with
  | .aload_n _ => 0
  | .iload_n _ => 1
  | .getfield _ => 2
  | .iconst _ => 3
  | .iload _ => 4
  | .iaload => 5
  | .if_icmp c _ => 6
  | .iinc _ _ => 7
  | .goto _ => 8
  | .ifCond c _ => 9
  | .bipush _ => 10
  | .iadd => 11
  | .putfield _ => 12
  | .iastore => 13
  | .istore_n _ => 14
  | .istore _ => 15
  | .sipush _ => 16
  | .dup => 17
  | .ldc _ => 18
  | .ldc_w _ => 19
  | .lconst _ => 20
  | .aload _ => 21
  | .astore_n _ => 22
  | .astore _ => 23
  | .isub => 24
  | .imul => 25
  | .iand => 26
  | .ior => 27
  | .ixor => 28
  | .ishl => 29
  | .ishr => 30
  | .idiv => 31
  | .irem => 32
  | .i2b => 33
  | .dup2 => 34
  | .pop => 35
  | .tableswitch _ _ _ _ => 36
  | .lookupswitch _ _ => 37
  | .new _ => 38
  | .newarray _ => 39
  | .anewarray _ => 40
  | .arraylength => 41
  | .baload => 42
  | .aaload => 43
  | .bastore => 44
  | .lastore => 45
  | .aastore => 46
  | .invokestatic _ => 47
  | .invokespecial _ => 48
  | _ => 99
/-- the same by numbers -/
noncomputable def ex_opt (t : Nat) (en : ex_E) (a b : ex_V) : Option ex_V := match ex_cst en a, ex_cst en b with
  | some x, some y => bif Nat.beq t 11 then some (ex_k ((x + y + 2147483648) % 4294967296)) else bif Nat.beq t 24 then some (ex_k ((x + 6442450944 - y) % 4294967296)) else bif Nat.beq t 25 then some (ex_k (ex_t (ex_t x * ex_t y % 4294967296))) else bif Nat.beq t 32 then (bif Nat.ble 2147483648 x && Nat.ble 2147483649 y then some (ex_k ((x - 2147483648) % (y - 2147483648) + 2147483648)) else none) else bif Nat.beq t 26 then some (ex_k (ex_t (Nat.land (ex_t x) (ex_t y)))) else bif Nat.beq t 27 then some (ex_k (ex_t (Nat.lor (ex_t x) (ex_t y)))) else bif Nat.beq t 28 then some (ex_k (ex_t (Nat.xor (ex_t x) (ex_t y)))) else bif Nat.beq t 29 then (bif Nat.beq y 2147483648 then some (ex_k x) else some ex_full) else bif Nat.beq t 31 then (bif Nat.ble 2147483648 x && Nat.ble 2147483649 y then some (ex_k ((x - 2147483648) / (y - 2147483648) + 2147483648)) else none) else bif Nat.beq t 30 then some ex_full else none
  | none, some y => bif Nat.beq t 11 then (bif Nat.beq y 2147483648 && ex_isI a then some a else some ex_full) else bif Nat.beq t 26 then (bif Nat.ble 2147483648 y then some (ex_r 2147483648 y) else some ex_full) else bif Nat.beq t 31 then none else bif Nat.beq t 32 then none else some ex_full
  | some x, none => bif Nat.beq t 11 then (bif Nat.beq x 2147483648 && ex_isI b then some b else some ex_full) else bif Nat.beq t 31 then none else bif Nat.beq t 32 then none else some ex_full
  | none, none => bif Nat.beq t 31 then none else bif Nat.beq t 32 then none else some ex_full
noncomputable def ex_bin2 (q : ex_P) (r : List ex_P) (en : ex_E) (lv : ex_L) (st : List ex_V) (h : ex_H) (n cc ss : Nat) : Option (List (ex_E × ex_S)) := match st with
  | b :: a :: rest => bif ex_isI a && ex_isI b then (match ex_need en a with
    | some i => ex_spl en i (q :: r, lv, st, h, n, cc, ss)
    | none => (match ex_need en b with
      | some i => ex_spl en i (q :: r, lv, st, h, n, cc, ss)
      | none => (match ex_opt (ex_tag q.2.1) en a b with
        | some v => ex_ft q r en lv (v :: rest) h n cc ss
        | none => none))) else none
  | _ => none
def ex_cnd (o : Instr) : ClassFile.Cond := match o with
  | .ifCond c _ => c
  | .if_icmp c _ => c
  | _ => .eq
noncomputable def ex_s_if1 (pr : List ex_P) (q : ex_P) (r : List ex_P) (en : ex_E) (lv : ex_L) (st : List ex_V) (h : ex_H) (n cc ss : Nat) : Option (List (ex_E × ex_S)) := match st with
  | a :: rest => ex_ifs pr q r (ex_cnd q.2.1) en lv a (ex_k 2147483648) rest h n cc ss
  | [] => none
noncomputable def ex_s_if2 (pr : List ex_P) (q : ex_P) (r : List ex_P) (en : ex_E) (lv : ex_L) (st : List ex_V) (h : ex_H) (n cc ss : Nat) : Option (List (ex_E × ex_S)) := match st with
  | b :: a :: rest => ex_ifs pr q r (ex_cnd q.2.1) en lv a b rest h n cc ss
  | _ => none
noncomputable def ex_s_iinc (pr : List ex_P) (isl : Bool) (L mL : Nat) (cap : Nat × Nat) (df : Nat → List ex_V) (en : ex_E) (q : ex_P) (r : List ex_P) (lv : ex_L) (st : List ex_V) (h : ex_H) (n cc ss : Nat) : Option (List (ex_E × ex_S)) := match ex_lk lv q.2.2.2.1 with
    | some v => (match ex_cst en v with
      | some u => bif ex_isI v && Nat.blt q.2.2.2.1 mL then ex_ft q r en ((q.2.2.2.1, ex_k ((u + q.2.2.2.2.1) % 4294967296)) :: ex_del lv q.2.2.2.1) st h n cc ss else none
      | none => none)
    | none => none
noncomputable def ex_s_dup (pr : List ex_P) (isl : Bool) (L mL : Nat) (cap : Nat × Nat) (df : Nat → List ex_V) (en : ex_E) (q : ex_P) (r : List ex_P) (lv : ex_L) (st : List ex_V) (h : ex_H) (n cc ss : Nat) : Option (List (ex_E × ex_S)) := match st with
    | v :: rest => bif Nat.beq (ex_cat v) 1 then ex_ft q r en lv (v :: v :: rest) h n cc ss else none
    | [] => none
noncomputable def ex_s_i2b (pr : List ex_P) (isl : Bool) (L mL : Nat) (cap : Nat × Nat) (df : Nat → List ex_V) (en : ex_E) (q : ex_P) (r : List ex_P) (lv : ex_L) (st : List ex_V) (h : ex_H) (n cc ss : Nat) : Option (List (ex_E × ex_S)) := match st with
    | v :: rest => bif ex_isI v then ex_ft q r en lv (ex_full :: rest) h n cc ss else none
    | [] => none
noncomputable def ex_s_dup2 (pr : List ex_P) (isl : Bool) (L mL : Nat) (cap : Nat × Nat) (df : Nat → List ex_V) (en : ex_E) (q : ex_P) (r : List ex_P) (lv : ex_L) (st : List ex_V) (h : ex_H) (n cc ss : Nat) : Option (List (ex_E × ex_S)) := match st with
    | v :: w :: rest => bif Nat.beq (ex_cat v) 1 && Nat.beq (ex_cat w) 1 then ex_ft q r en lv (v :: w :: v :: w :: rest) h n cc ss else none
    | _ => none
noncomputable def ex_s_pop (pr : List ex_P) (isl : Bool) (L mL : Nat) (cap : Nat × Nat) (df : Nat → List ex_V) (en : ex_E) (q : ex_P) (r : List ex_P) (lv : ex_L) (st : List ex_V) (h : ex_H) (n cc ss : Nat) : Option (List (ex_E × ex_S)) := match st with
    | v :: rest => bif Nat.beq (ex_cat v) 1 then ex_ft q r en lv rest h n cc ss else none
    | [] => none
noncomputable def ex_s_tableswitch (pr : List ex_P) (isl : Bool) (L mL : Nat) (cap : Nat × Nat) (df : Nat → List ex_V) (en : ex_E) (q : ex_P) (r : List ex_P) (lv : ex_L) (st : List ex_V) (h : ex_H) (n cc ss : Nat) : Option (List (ex_E × ex_S)) := match st with
    | v :: rest => bif ex_isI v then some (ex_app (ex_map (fun e => (e, (ex_jp pr q.2.2.2.1, lv, rest, h, n, cc, ss))) (ex_1 en v 0 (q.2.2.2.2.1 - 1))) (ex_sw pr q en lv v rest h n cc ss q.2.2.2.2.2.2 q.2.2.2.2.1)) else none
    | [] => none
noncomputable def ex_s_lookupswitch (pr : List ex_P) (isl : Bool) (L mL : Nat) (cap : Nat × Nat) (df : Nat → List ex_V) (en : ex_E) (q : ex_P) (r : List ex_P) (lv : ex_L) (st : List ex_V) (h : ex_H) (n cc ss : Nat) : Option (List (ex_E × ex_S)) := match st with
    | v :: rest => bif ex_isI v then ex_lu pr q lv v rest h n cc ss q.2.2.2.2.2.2 en else none
    | [] => none
noncomputable def ex_s_invokespecial (pr : List ex_P) (isl : Bool) (L mL : Nat) (cap : Nat × Nat) (df : Nat → List ex_V) (en : ex_E) (q : ex_P) (r : List ex_P) (lv : ex_L) (st : List ex_V) (h : ex_H) (n cc ss : Nat) : Option (List (ex_E × ex_S)) := match st with
    | .inr (.inl (some _)) :: rest => bif Nat.ble (ex_len rest) 4 then ex_ft q r en lv rest h n cc ss else none
    | _ => none
noncomputable def ex_go (n_ : Nat) (pr : List ex_P) (isl : Bool) (L mL : Nat) (cap : Nat × Nat) (df : Nat → List ex_V) (en : ex_E) (q : ex_P) (r : List ex_P) (lv : ex_L) (st : List ex_V) (h : ex_H) (n cc ss : Nat) : Option (List (ex_E × ex_S)) := bif Nat.ble n_ 48 then (bif Nat.ble n_ 15 then (bif Nat.ble n_ 4 then (bif Nat.ble n_ 1 then (bif Nat.ble n_ 0 then (ex_ld q r en lv st h n cc ss ex_isR) else (ex_ld q r en lv st h n cc ss ex_isI)) else (bif Nat.ble n_ 2 then (ex_gf q r en lv st h n cc ss) else (bif Nat.ble n_ 3 then (ex_ft q r en lv (ex_k q.2.2.2.1 :: st) h n cc ss) else (ex_ld q r en lv st h n cc ss ex_isI)))) else (bif Nat.ble n_ 7 then (bif Nat.ble n_ 5 then (ex_ald isl L (fun t => Nat.beq t 0) q r en lv st h n cc ss) else (bif Nat.ble n_ 6 then (ex_s_if2 pr q r en lv st h n cc ss) else (ex_s_iinc pr isl L mL cap df en q r lv st h n cc ss))) else (bif Nat.ble n_ 9 then (bif Nat.ble n_ 8 then (some [(en, (ex_jp pr q.2.2.2.1, lv, st, h, n, cc, ss))]) else (ex_s_if1 pr q r en lv st h n cc ss)) else (bif Nat.ble n_ 12 then (bif Nat.ble n_ 10 then (ex_ft q r en lv (ex_k q.2.2.2.1 :: st) h n cc ss) else (bif Nat.ble n_ 11 then (ex_bin2 q r en lv st h n cc ss) else (ex_pf q r en lv st h n cc ss))) else (bif Nat.ble n_ 13 then (ex_ast q r en lv st h n cc ss ex_oki) else (bif Nat.ble n_ 14 then (ex_st mL q r en lv st h n cc ss ex_isI) else (ex_st mL q r en lv st h n cc ss ex_isI))))))) else (bif Nat.ble n_ 26 then (bif Nat.ble n_ 18 then (bif Nat.ble n_ 16 then (ex_ft q r en lv (ex_k q.2.2.2.1 :: st) h n cc ss) else (bif Nat.ble n_ 17 then (ex_s_dup pr isl L mL cap df en q r lv st h n cc ss) else (ex_ft q r en lv (ex_k q.2.2.2.1 :: st) h n cc ss))) else (bif Nat.ble n_ 20 then (bif Nat.ble n_ 19 then (ex_ft q r en lv (ex_k q.2.2.2.1 :: st) h n cc ss) else (ex_ft q r en lv (ex_j (Int64.ofNat q.2.2.2.1) :: st) h n cc ss)) else (bif Nat.ble n_ 23 then (bif Nat.ble n_ 21 then (ex_ld q r en lv st h n cc ss ex_isR) else (bif Nat.ble n_ 22 then (ex_st mL q r en lv st h n cc ss ex_isR) else (ex_st mL q r en lv st h n cc ss ex_isR))) else (bif Nat.ble n_ 24 then (ex_bin2 q r en lv st h n cc ss) else (bif Nat.ble n_ 25 then (ex_bin2 q r en lv st h n cc ss) else (ex_bin2 q r en lv st h n cc ss)))))) else (bif Nat.ble n_ 33 then (bif Nat.ble n_ 28 then (bif Nat.ble n_ 27 then (ex_bin2 q r en lv st h n cc ss) else (ex_bin2 q r en lv st h n cc ss)) else (bif Nat.ble n_ 30 then (bif Nat.ble n_ 29 then (ex_bin2 q r en lv st h n cc ss) else (ex_bin2 q r en lv st h n cc ss)) else (bif Nat.ble n_ 31 then (ex_bin2 q r en lv st h n cc ss) else (bif Nat.ble n_ 32 then (ex_bin2 q r en lv st h n cc ss) else (ex_s_i2b pr isl L mL cap df en q r lv st h n cc ss))))) else (bif Nat.ble n_ 38 then (bif Nat.ble n_ 35 then (bif Nat.ble n_ 34 then (ex_s_dup2 pr isl L mL cap df en q r lv st h n cc ss) else (ex_s_pop pr isl L mL cap df en q r lv st h n cc ss)) else (bif Nat.ble n_ 36 then (ex_s_tableswitch pr isl L mL cap df en q r lv st h n cc ss) else (bif Nat.ble n_ 37 then (ex_s_lookupswitch pr isl L mL cap df en q r lv st h n cc ss) else (ex_nw cap df q r en lv st h n cc ss)))) else (bif Nat.ble n_ 41 then (bif Nat.ble n_ 39 then (ex_na cap q r en lv st h n cc ss) else (bif Nat.ble n_ 40 then (ex_na cap q r en lv st h n cc ss) else (ex_al isl L q r en lv st h n cc ss))) else (bif Nat.ble n_ 43 then (bif Nat.ble n_ 42 then (ex_ald false L ex_bz q r en lv st h n cc ss) else (ex_ald false L (fun t => Nat.beq t 4) q r en lv st h n cc ss)) else (bif Nat.ble n_ 45 then (bif Nat.ble n_ 44 then (ex_ast q r en lv st h n cc ss (ex_okb en)) else (ex_ast q r en lv st h n cc ss ex_okj)) else (bif Nat.ble n_ 46 then (ex_ast q r en lv st h n cc ss (ex_okq h)) else (bif Nat.ble n_ 47 then (ex_acp q r en lv st h n cc ss) else (ex_s_invokespecial pr isl L mL cap df en q r lv st h n cc ss)))))))))) else none
noncomputable def ex_step2 (pr : List ex_P) (isl : Bool) (L mL : Nat) (cap : Nat × Nat) (df : Nat → List ex_V) (en : ex_E) (q : ex_P) (r : List ex_P) (lv : ex_L) (st : List ex_V) (h : ex_H) (n cc ss : Nat) : Option (List (ex_E × ex_S)) := ex_go (ex_tag q.2.1) pr isl L mL cap df en q r lv st h n cc ss
/-- a call's first number: the method, its second: how many values it takes, its third: 0 for a call, 1 for a copy of rows or Object's constructor -/
def ex_call (q : ex_P) : Bool := match q.2.1 with
  | .invokestatic _ => Nat.beq q.2.2.2.2.2.1 0
  | .invokespecial _ => Nat.beq q.2.2.2.2.2.1 0
  | .invokevirtual _ => true
  | _ => false
def ex_end (q : ex_P) : Bool := match q.2.1 with
  | .ireturn => true
  | .areturn => true
  | .return_ => true
  | _ => false
noncomputable def ex_take (n : Nat) : List ex_V → List ex_V → Option (List ex_V × List ex_V) := Nat.rec (motive := fun _ => List ex_V → List ex_V → Option (List ex_V × List ex_V)) (fun acc st => some (acc, st)) (fun _ ih acc st => match st with
  | v :: rest => bif Nat.beq (ex_cat v) 1 then ih (v :: acc) rest else none
  | [] => none) n
noncomputable def ex_args (l : List ex_V) (i : Nat) : ex_L := List.rec (motive := fun _ => Nat → ex_L) (fun _ => []) (fun v _ ih i => (i, v) :: ih (i + 1)) l i
/-- an answer that is a boolean is 0 or 1 -/
noncomputable def ex_zok (en : ex_E) (z : Nat) (v : ex_V) : Bool := bif Nat.beq z 1 then (match ex_cst en v with
  | some u => Nat.beq u 2147483648 || Nat.beq u 2147483649
  | none => false) else true
abbrev ex_A : Type := ex_E × List ex_V × ex_H × Nat
/-- what a method leaves: its answer, and the cells -/
noncomputable def ex_ret (z mc ms : Nat) (o : ex_E × ex_S) : Option ex_A := match o with
  | (e, (q :: _, _, st, h, n, c', s')) => bif Nat.ble c' mc && Nat.ble s' ms then (match q.2.1, st with
    | .ireturn, [v] => bif ex_isI v && ex_zok e z v then some (e, [v], h, n) else none
    | .areturn, [v] => bif ex_isR v then some (e, [v], h, n) else none
    | .return_, [] => some (e, [], h, n)
    | _, _ => none) else none
  | _ => none
noncomputable def ex_rets (z mc ms : Nat) (l : List (ex_E × ex_S)) : Option (List ex_A) := List.rec (motive := fun _ => Option (List ex_A)) (some []) (fun a _ ih => match ex_ret z mc ms a with
  | none => none
  | some x => (match ih with
    | none => none
    | some y => some (x :: y))) l
/-- answers that lie side by side become one: untrusted, then held against each -/
def ex_veq (a b : ex_V) : Bool := match a, b with
  | .inl (.inl x), .inl (.inl y) => Nat.beq x y
  | .inl (.inr (.inl x)), .inl (.inr (.inl y)) => Nat.beq x y
  | .inl (.inr (.inr x)), .inl (.inr (.inr y)) => Nat.beq x.1 y.1 && Nat.beq x.2 y.2
  | .inr (.inl none), .inr (.inl none) => true
  | .inr (.inl (some x)), .inr (.inl (some y)) => Nat.beq x y
  | .inr (.inr (.inl x)), .inr (.inr (.inl y)) => decide (x = y)
  | _, _ => false
noncomputable def ex_lq {α : Type} (f : α → α → Bool) (l : List α) : List α → Bool := List.rec (motive := fun _ => List α → Bool) (fun r => match r with
  | [] => true
  | _ :: _ => false) (fun a _ ih r => match r with
  | [] => false
  | b :: t => f a b && ih t) l
def ex_pq (a b : Nat × ex_V) : Bool := Nat.beq a.1 b.1 && ex_veq a.2 b.2
noncomputable def ex_cq (a b : ex_C) : Bool := match a, b with
  | .inl x, .inl y => Nat.beq x.1 y.1 && ex_lq ex_veq x.2 y.2
  | .inr x, .inr y => Nat.beq x.1 y.1 && Nat.beq x.2.1 y.2.1 && ex_lq ex_pq x.2.2 y.2.2
  | _, _ => false
noncomputable def ex_hb (a b : List ex_C) : Bool := match b with
  | [] => true
  | _ :: _ => ex_lq ex_cq a b
/-- the second's cells are the first's -/
noncomputable def ex_hq (l : ex_H) : ex_H → Bool := List.rec (motive := fun _ => ex_H → Bool) (fun r => match r with
  | [] => true
  | _ :: _ => false) (fun a _ ih r => match r with
  | [] => true
  | b :: t => ex_hb a b && ih t) l
noncomputable def ex_eq' (l : ex_E) : ex_E → Bool := List.rec (motive := fun _ => ex_E → Bool) (fun r => match r with
  | [] => true
  | _ :: _ => false) (fun a _ ih r => match r with
  | [] => true
  | b :: t => Nat.ble b.1 a.1 && Nat.ble a.2 b.2 && ih t) l
noncomputable def ex_le (a m : ex_A) : Bool := ex_eq' a.1 m.1 && ex_lq ex_veq a.2.1 m.2.1 && Nat.beq a.2.2.2 m.2.2.2 && ex_hq a.2.2.1 m.2.2.1
noncomputable def ex_any {α : Type} (f : α → Bool) (l : List α) : Bool := List.rec (motive := fun _ => Bool) false (fun a _ ih => f a || ih) l
noncomputable def ex_every {α : Type} (f : α → Bool) (l : List α) : Bool := List.rec (motive := fun _ => Bool) true (fun a _ ih => f a && ih) l
/-- two ranges side by side -/
noncomputable def ex_hull (l : ex_E) : ex_E → ex_E := List.rec (motive := fun _ => ex_E → ex_E) (fun _ => []) (fun a _ ih r => match r with
  | [] => []
  | b :: t => (bif Nat.beq (a.2 + 1) b.1 then (a.1, b.2) else a) :: ih t) l
noncomputable def ex_next (l : ex_E) : ex_E → Nat := List.rec (motive := fun _ => ex_E → Nat) (fun _ => 0) (fun a _ ih r => match r with
  | [] => 9
  | b :: t => (bif Nat.beq a.1 b.1 && Nat.beq a.2 b.2 then 0 else bif Nat.beq (a.2 + 1) b.1 then 1 else 9) + ih t) l
noncomputable def ex_drop (k : Nat) (h : ex_H) : ex_H := List.rec (motive := fun _ => Nat → ex_H) (fun _ => []) (fun a _ ih k => Nat.rec (motive := fun _ => ex_H) (a :: ih 0) (fun k' _ => [] :: ih k') k) h k
noncomputable def ex_grp (k : Nat) (l : List ex_A) : List ex_A := List.rec (motive := fun _ => List ex_A) [] (fun a _ ih => match ih with
  | [] => [(a.1, a.2.1, ex_drop k a.2.2.1, a.2.2.2)]
  | m :: t => bif ex_lq ex_veq a.2.1 m.2.1 && Nat.ble (ex_next a.1 m.1) 1 && ex_hq a.2.2.1 m.2.2.1 then (ex_hull a.1 m.1, m.2.1, m.2.2.1, m.2.2.2) :: t else (a.1, a.2.1, ex_drop k a.2.2.1, a.2.2.2) :: m :: t) l
noncomputable def ex_mg (b : Bool) (l : List ex_A) : Option (List ex_A) := bif b && Nat.ble 2 (ex_len l) then (bif ex_every (fun a => ex_any (ex_le a) (ex_grp 15 l)) l then some (ex_grp 15 l) else none) else some l
noncomputable def ex_bk (r : List ex_P) (lv : ex_L) (rest : List ex_V) (cc ss : Nat) (a : ex_A) : ex_E × ex_S := (a.1, (r, lv, ex_app a.2.1 rest, a.2.2.1, a.2.2.2, cc, ss))
noncomputable def ex_alls (f : ex_E × ex_S → Option (List (ex_E × ex_S))) (l : List (ex_E × ex_S)) : Option (List (ex_E × ex_S)) := List.rec (motive := fun _ => Option (List (ex_E × ex_S))) (some []) (fun a _ ih => match f a with
  | none => none
  | some x => (match ih with
    | none => none
    | some y => some (ex_app x y))) l
/-- one state is gone on with as it is -/
noncomputable def ex_all (f : ex_E × ex_S → Option (List (ex_E × ex_S))) (l : List (ex_E × ex_S)) : Option (List (ex_E × ex_S)) := match l with
  | [a] => f a
  | l => ex_alls f l
/-- a receiver is an object of the class that the third number says; a new one's constructor has one -/
noncomputable def ex_rcv (q : ex_P) (h : ex_H) (a : List ex_V) : Bool := match q.2.1, a with
  | .invokevirtual _, .inr (.inl (some o)) :: _ => (match ex_get h o with
    | some (.inl oc) => Nat.beq oc.1 q.2.2.2.2.2.1
    | _ => false)
  | .invokespecial _, .inr (.inl (some _)) :: _ => true
  | .invokestatic _, _ => true
  | _, _ => false
abbrev ex_F : Type := Nat → Nat → Bool → ex_M → ex_E → ex_S → Option (List (ex_E × ex_S))
def ex_nx3 (q : ex_P) (r : List ex_P) : Bool := match r with
  | [] => false
  | q' :: _ => Nat.beq q'.1 (q.1 + 3)
/-- a call, and what comes behind it -/
noncomputable def ex_cl (run : ex_F) (mt : Nat → Option ex_M) (stop d : Nat) (isl : Bool) (M : ex_M) (en : ex_E) (q : ex_P) (r : List ex_P) (lv : ex_L) (st : List ex_V) (h : ex_H) (n cc ss : Nat) : Option (List (ex_E × ex_S)) := match d with
  | 0 => none
  | d' + 1 => (match mt q.2.2.2.1 with
    | none => none
    | some M' => (match ex_take q.2.2.2.2.1 [] st with
      | none => none
      | some ar => bif Nat.ble (ex_len ar.2) 4 && Nat.ble (cc + M'.2.2.2.1) M.2.2.2.1 && Nat.ble (ss + M'.2.2.2.2) M.2.2.2.2 && ex_nx3 q r && ex_rcv q h ar.1 then (match run 1000000 d' false M' en (M'.1, ex_args ar.1 0, [], h, n, 0, 0) with
        | none => none
        | some outs => (match ex_rets M'.2.2.1 M'.2.2.2.1 M'.2.2.2.2 outs with
          | none => none
          | some l => (match ex_mg isl l with
            | none => none
            | some l' => ex_all (fun o => run stop (d' + 1) isl M o.1 o.2) (ex_map (ex_bk r lv ar.2 (cc + M'.2.2.2.1) (ss + M'.2.2.2.2)) l')))) else none))
noncomputable def ex_sp (run : ex_F) (df : Nat → List ex_V) (L stop d : Nat) (isl : Bool) (M : ex_M) (en : ex_E) (q : ex_P) (r : List ex_P) (lv : ex_L) (st : List ex_V) (h : ex_H) (n cc ss : Nat) : Option (List (ex_E × ex_S)) := match ex_step2 M.1 isl L M.2.1 (M.2.2.2.1, M.2.2.2.2) df en q r lv st h n cc ss with
  | none => none
  | some l => ex_all (fun o => run stop d isl M o.1 o.2) l
/-- the run: up to returns, or (in the law's own frame) up to the place 'stop' -/
noncomputable def ex_run (mt : Nat → Option ex_M) (df : Nat → List ex_V) (L : Nat) (f : Nat) : ex_F := Nat.rec (motive := fun _ => ex_F) (fun _ _ _ _ _ _ => none) (fun _ ih stop d isl M en s => match s with
  | ([], _) => none
  | (q :: r, lv, st, h, n, cc, ss) =>
    bif ex_end q || Nat.ble stop q.1 then some [(en, s)] else
    bif ex_call q then ex_cl ih mt stop d isl M en q r lv st h n cc ss else ex_sp ih df L stop d isl M en q r lv st h n cc ss) f
