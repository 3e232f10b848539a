/-! a step of the checker -/
abbrev ty_O : Type := Option (List (ty_E × ty_S))
noncomputable def ty_ft (q : ex_P) (r : List ex_P) (e : ty_E) (lv : ty_L) (st : List ty_V) (K : ty_K) : ty_O := match r with
  | [] => none
  | q' :: r' => bif Nat.beq q'.1 (q.1 + q.2.2.1) then some [(e, (q' :: r', lv, st, K))] else none
def ty_gi (v : ty_V) : Option ty_t := match v with
  | .inl (.inl t) => some t
  | _ => none
def ty_isI (v : ty_V) : Bool := match v with
  | .inl (.inl _) => true
  | _ => false
def ty_isJ (v : ty_V) : Bool := match v with
  | .inl (.inr _) => true
  | _ => false
def ty_isR (v : ty_V) : Bool := match v with
  | .inr (.inl _) => true
  | .inr (.inr (.inr (.inl i))) => Nat.blt i 100
  | .inr (.inr (.inr (.inr _))) => true
  | _ => false
def ty_isK (v : ty_V) : Bool := match v with
  | .inl _ => true
  | .inr _ => false
def ty_cat (v : ty_V) : Nat := match v with
  | .inl (.inr _) => 2
  | _ => 1
noncomputable def ty_del (lv : ty_L) (i : Nat) : ty_L := List.rec (motive := fun _ => ty_L) [] (fun q _ ih => bif (!(Nat.beq q.1 i) && !(Nat.beq (q.1 + 1) i && Nat.beq (ty_cat q.2) 2)) then q :: ih else ih) lv
noncomputable def ty_del2 (lv : ty_L) (i : Nat) : ty_L := List.rec (motive := fun _ => ty_L) [] (fun q _ ih => bif (!(Nat.beq q.1 i) && (!(Nat.beq q.1 (i + 1)) && !(Nat.beq (q.1 + 1) i && Nat.beq (ty_cat q.2) 2))) then q :: ih else ih) lv
noncomputable def ty_ld (q : ex_P) (r : List ex_P) (e : ty_E) (lv : ty_L) (st : List ty_V) (K : ty_K) (ok : ty_V → Bool) : ty_O := match ex_lk lv q.2.2.2.1 with
  | some v => bif ok v then ty_ft q r e lv (v :: st) K else none
  | none => none
noncomputable def ty_st (mL : Nat) (q : ex_P) (r : List ex_P) (e : ty_E) (lv : ty_L) (st : List ty_V) (K : ty_K) (ok : ty_V → Bool) : ty_O := match st with
  | v :: rest => bif ok v && Nat.blt q.2.2.2.1 mL then ty_ft q r e ((q.2.2.2.1, v) :: ty_del lv q.2.2.2.1) rest K else none
  | [] => none
noncomputable def ty_st2 (mL : Nat) (q : ex_P) (r : List ex_P) (e : ty_E) (lv : ty_L) (st : List ty_V) (K : ty_K) : ty_O := match st with
  | v :: rest => bif ty_isJ v && Nat.blt (q.2.2.2.1 + 1) mL then ty_ft q r e ((q.2.2.2.1, v) :: ty_del2 lv q.2.2.2.1) rest K else none
  | [] => none
/-- a state cut by an int's values -/
def ty_oc (o : Option ty_E) (s : ty_S) (l : List (ty_E × ty_S)) : List (ty_E × ty_S) := match o with
  | none => l
  | some e' => (e', s) :: l
noncomputable def ty_spll (e : ty_E) (i : Nat) (s : ty_S) (l : Int) (ns : List Nat) : List (ty_E × ty_S) := List.rec (motive := fun _ => List (ty_E × ty_S)) [] (fun (j : Nat) _ ih => ty_fc (l + (j : Int)) (fun x => ty_oc (ty_prop e.2.2 (e.1, (i, x, x) :: e.2.1, e.2.2)) s ih)) ns
theorem ty_spll_cons (e : ty_E) (i : Nat) (s : ty_S) (l : Int) (a : Nat) (t : List Nat) : ty_spll e i s l (a :: t) = ty_oc (ty_prop e.2.2 (e.1, (i, l + (a : Int), l + (a : Int)) :: e.2.1, e.2.2)) s (ty_spll e i s l t) := by
  show ty_fc (l + (a : Int)) (fun x => ty_oc (ty_prop e.2.2 (e.1, (i, x, x) :: e.2.1, e.2.2)) s (ty_spll e i s l t)) = _
  rw [ty_fc_eq]
noncomputable def ty_spl (e : ty_E) (i : Nat) (s : ty_S) : ty_O := match ty_iv e.2.1 i with
  | (l, h) => some (ty_spll e i s l (ex_range ((h - l).toNat + 1) 0))
/-- a state cut by a term: below 0, from 0 on -/
noncomputable def ty_cut (e : ty_E) (d : ty_t) (s : ty_S) : List (ty_E × ty_S) := ex_app (ex_map (fun e' => (e', s)) (ty_rl e (ty_pl d 1))) (ex_map (fun e' => (e', s)) (ty_rl e (ty_add (ty_k 0) d (-1))))
/-- two terms are alike; they are not -/
noncomputable def ty_sm (e : ty_E) (a b : ty_t) : Bool := ty_nn (-(ty_hi e (ty_add a b (-1)))) && ty_nn (ty_lo e (ty_add a b (-1)))
noncomputable def ty_df (e : ty_E) (a b : ty_t) : Bool := ty_le (ty_hi e (ty_add a b (-1))) (-1) || ty_le 1 (ty_lo e (ty_add a b (-1)))
/-- a shift's and a bit's entries: 1008, 1009 -/
noncomputable def ty_fsh (e : ty_E) (a : ty_t) (K : ty_K) : Option (ty_t × ty_t) := List.rec (motive := fun _ => Option (ty_t × ty_t)) none (fun q _ ih => match q.2.2.2 with
  | .inl (.inl w) => bif Nat.beq q.1 1008 && ty_sm e w a then some (q.2.1, q.2.2.1) else ih
  | _ => ih) K
noncomputable def ty_gb (o : Instr) (e : ty_E) (K : ty_K) (a b z : ty_t) : ty_K := match o with
  | .ishr => (match ty_cst e b with
    | none => (1008, a, b, ty_i z) :: K
    | some _ => K)
  | .iand => (match ty_cst e b with
    | some (.ofNat 1) => (match ty_fsh e a K with
      | some p => (1009, p.1, p.2, ty_i z) :: K
      | none => K)
    | _ => K)
  | _ => K
noncomputable def ty_res1 (q : ex_P) (r : List ex_P) (e : ty_E) (lv : ty_L) (st rest : List ty_V) (K : ty_K) (Kf : ty_t → ty_K) (x : Option ty_R) : ty_O := match x with
  | none => none
  | some (.inl i) => ty_spl e i (q :: r, lv, st, K)
  | some (.inr (.inl d)) => some (ty_cut e d (q :: r, lv, st, K))
  | some (.inr (.inr w)) => ty_ft q r w.1 lv (ty_i w.2 :: rest) (Kf w.2)
noncomputable def ty_bin (q : ex_P) (r : List ex_P) (e : ty_E) (lv : ty_L) (st : List ty_V) (K : ty_K) : ty_O := match st with
  | .inl (.inl b) :: .inl (.inl a) :: rest => ty_res1 q r e lv st rest K (ty_gb q.2.1 e K a b) (ty_ar q.2.1 e a b)
  | _ => none
noncomputable def ty_ifs (pr : List ex_P) (q : ex_P) (r : List ex_P) (c : ClassFile.Cond) (e : ty_E) (lv : ty_L) (a b : ty_t) (rest : List ty_V) (K : ty_K) : ty_O := match ty_br c e a b with
  | (T, []) => some (ex_map (fun e => (e, (ex_jp pr q.2.2.2.1, lv, rest, K))) T)
  | (T, f0 :: fs) => (match r with
    | [] => none
    | q' :: r' => bif Nat.beq q'.1 (q.1 + q.2.2.1) then some (ex_app (ex_map (fun e => (e, (ex_jp pr q.2.2.2.1, lv, rest, K))) T) (ex_map (fun e => (e, (q' :: r', lv, rest, K))) (f0 :: fs))) else none)
noncomputable def ty_if1 (pr : List ex_P) (q : ex_P) (r : List ex_P) (c : ClassFile.Cond) (e : ty_E) (lv : ty_L) (st : List ty_V) (K : ty_K) : ty_O := match st with
  | .inl (.inl a) :: rest => ty_ifs pr q r c e lv a (ty_k 0) rest K
  | .inr (.inr (.inl (a, b))) :: rest => ty_ifs pr q r c e lv a b rest K
  | _ => none
noncomputable def ty_if2 (pr : List ex_P) (q : ex_P) (r : List ex_P) (c : ClassFile.Cond) (e : ty_E) (lv : ty_L) (st : List ty_V) (K : ty_K) : ty_O := match st with
  | .inl (.inl b) :: .inl (.inl a) :: rest => ty_ifs pr q r c e lv a b rest K
  | _ => none
noncomputable def ty_sw (pr : List ex_P) (q : ex_P) (e : ty_E) (lv : ty_L) (a : ty_t) (rest : List ty_V) (K : ty_K) (ts : List Nat) (lo : Int) : List (ty_E × ty_S) := List.rec (motive := fun _ => Int → List (ty_E × ty_S)) (fun lo => ex_map (fun e => (e, (ex_jp pr q.2.2.2.1, lv, rest, K))) (ty_rl e (ty_add (ty_k lo) a (-1)))) (fun t _ ih lo => ex_app (ex_map (fun e => (e, (ex_jp pr t, lv, rest, K))) (ty_rl2 e (ty_pl a (-lo)) (ty_add (ty_k lo) a (-1)))) (ih (lo + 1))) ts lo
noncomputable def ty_tsw (pr : List ex_P) (q : ex_P) (e : ty_E) (lv : ty_L) (st : List ty_V) (K : ty_K) : ty_O := match st with
  | .inl (.inl a) :: rest => some (ex_app (ex_map (fun e => (e, (ex_jp pr q.2.2.2.1, lv, rest, K))) (ty_rl e (ty_pl a (1 - ((q.2.2.2.2.1 : Int) - 2147483648))))) (ty_sw pr q e lv a rest K q.2.2.2.2.2.2 ((q.2.2.2.2.1 : Int) - 2147483648)))
  | _ => none
noncomputable def ty_lu (pr : List ex_P) (df : Nat) (lv : ty_L) (a : ty_t) (rest : List ty_V) (K : ty_K) (ps : List (Nat × Nat)) : ty_E → List (ty_E × ty_S) := List.rec (motive := fun _ => ty_E → List (ty_E × ty_S)) (fun e => [(e, (ex_jp pr df, lv, rest, K))]) (fun p _ ih e => match ty_br .eq e a (ty_k ((p.1 : Int) - 2147483648)) with
  | (T, F) => ex_app (ex_map (fun e => (e, (ex_jp pr p.2, lv, rest, K))) T) (List.rec (motive := fun _ => List (ty_E × ty_S)) [] (fun e' _ iF => ex_app (ih e') iF) F)) ps
noncomputable def ty_lsw (pr : List ex_P) (q : ex_P) (e : ty_E) (lv : ty_L) (st : List ty_V) (K : ty_K) : ty_O := match st with
  | .inl (.inl a) :: rest => some (ty_lu pr q.2.2.2.1 lv a rest K (ty_prs q.2.2.2.2.2.2) e)
  | _ => none
noncomputable def ty_kf (e : ty_E) (K : ty_K) (k : Nat) (c sl : ty_t) : Option ty_V := List.rec (motive := fun _ => Option ty_V) none (fun q _ ih => bif Nat.beq q.1 k && ty_sm e q.2.2.1 sl && ty_sm e q.2.1 c then some q.2.2.2 else ih) K
noncomputable def ty_nv (e : ty_E) (f : ty_F) : Option (ty_E × ty_V) := match f with
  | .inl (l, h) => some (ty_fr e l h [], ty_i (ty_s e.1))
  | .inr (.inl ()) => some (ty_fr e (-9223372036854775808) 9223372036854775807 [], ty_j (ty_s e.1))
  | .inr (.inr k) => (match ex_nth ty_kr k with
    | some (l, h) => bif ty_le h l then some (e, ty_r k (ty_k l)) else some (ty_fr e l h [], ty_r k (ty_s e.1))
    | none => none)
noncomputable def ty_rd (e : ty_E) (K : ty_K) (k : Nat) (c sl : ty_t) (f : ty_F) (keep : Bool) : Option (ty_E × ty_K × ty_V) := match ty_kf e K k c sl with
  | some v => some (e, K, v)
  | none => (match ty_nv e f with
    | some (e', v) => some (e', bif keep && ty_isK v then (k, c, sl, v) :: K else K, v)
    | none => none)
/-- entries from 1000 on speak of rows as wholes: which they hang on, and whether they outlast a write -/
def ty_isG (g : Nat) : Bool := Nat.ble 1000 g
def ty_fw : List (Nat × Nat) := [ty_cB, ty_cH, ty_cP, ty_cI, ty_cA, ty_cU, ty_cM]
def ty_wc (g : Nat) : List (Nat × Nat) := bif Nat.beq g 1000 then [ty_cW] else bif Nat.beq g 1001 then [ty_cC] else bif Nat.beq g 1002 then [ty_cC] else bif Nat.beq g 1003 then [ty_cT, ty_cF, ty_cO, ty_cC] else bif Nat.beq g 1004 then [ty_cC] else bif Nat.beq g 1006 then [ty_cW, ty_cS] else bif Nat.beq g 1015 then [] else bif Nat.ble 1010 g then ty_fw else []
noncomputable def ty_wt (g k : Nat) : Bool := ex_any (fun p => Nat.beq p.1 k) (ty_wc g)
noncomputable def ty_gk (e : ty_E) (q : Nat × ty_t × ty_t × ty_V) (k : Nat) (u : ty_t) : Bool := bif Nat.ble 1008 q.1 then false else bif Nat.beq q.1 1003 then (bif Nat.beq k ty_cC.1 then (match q.2.2.2 with
  | .inl (.inl v) => ty_ent e (ty_add v u (-1))
  | _ => false) || ty_ent e (ty_pl (ty_add u q.2.1 (-560)) 1) else bif Nat.beq k ty_cT.1 then ty_df e q.2.1 u else ty_df e (ty_add q.2.2.1 q.2.1 2) u) else ty_ent e (ty_add q.2.2.1 u (-1))
noncomputable def ty_kd (e : ty_E) (k : Nat) (sl : Option ty_t) (q : Nat × ty_t × ty_t × ty_V) : Bool := bif ty_isG q.1 then ty_wt q.1 k && (match sl with
  | some u => !(ty_gk e q k u)
  | none => true) else Nat.beq q.1 k && (match sl with
  | some u => !(ty_df e q.2.2.1 u)
  | none => true)
noncomputable def ty_kw (e : ty_E) (K : ty_K) (k : Nat) (sl : Option ty_t) : ty_K := List.rec (motive := fun _ => ty_K) [] (fun q _ ih => bif ty_kd e k sl q then ih else q :: ih) K
noncomputable def ty_al (ms : ty_M) (k : Nat) (sl : Option Nat) : Bool := ex_any (fun q => Nat.beq q.1 k && (match q.2, sl with
  | none, _ => true
  | some a, some b => Nat.beq a b
  | some _, none => false)) ms
noncomputable def ty_in2 (e : ty_E) (t : ty_t) (l h : Int) : Bool := (ty_le l ty_MIN || ty_ent e (ty_add (ty_k l) t (-1))) && (ty_le ty_MAX h || ty_ent e (ty_pl t (-h)))
/-- a value may lie in a field: a3 is 0 for ints, 1 for references, 2 for booleans, 3 for longs -/
noncomputable def ty_okv (e : ty_E) (a3 : Nat) (f : ty_F) (v : ty_V) : Bool := match f, v with
  | .inl (l, h), .inl (.inl t) => ty_in2 e t l h && (Nat.beq a3 0 || (Nat.beq a3 2 && ty_nn l && ty_le h 1))
  | .inr (.inl ()), .inl (.inr _) => Nat.beq a3 3
  | .inr (.inr k), .inr (.inl (k', _)) => Nat.beq k k' && Nat.beq a3 1
  | _, _ => false
noncomputable def ty_gf (q : ex_P) (r : List ex_P) (e : ty_E) (lv : ty_L) (st : List ty_V) (K : ty_K) : ty_O := match st with
  | .inr (.inl (k, c)) :: rest => (match ex_nth ty_ct k with
    | some (.inl (ci, fs)) => (match ex_nth fs q.2.2.2.2.1 with
      | some f => bif Nat.beq ci q.2.2.2.1 then (match ty_rd e K k c (ty_k (q.2.2.2.2.1 : Int)) f true with
        | some (e', K', v) => ty_ft q r e' lv (v :: rest) K'
        | none => none) else none
      | none => none)
    | _ => none)
  | _ => none
noncomputable def ty_pf (ms : ty_M) (q : ex_P) (r : List ex_P) (e : ty_E) (lv : ty_L) (st : List ty_V) (K : ty_K) : ty_O := match st with
  | v :: .inr (.inl (k, c)) :: rest => (match ex_nth ty_ct k with
    | some (.inl (ci, fs)) => (match ex_nth fs q.2.2.2.2.1 with
      | some f => bif Nat.beq ci q.2.2.2.1 && ty_okv e q.2.2.2.2.2.1 f v && ty_al ms k (some q.2.2.2.2.1) then ty_ft q r e lv rest (bif ty_isK v then (k, c, ty_k (q.2.2.2.2.1 : Int), v) :: ty_kw e K k (some (ty_k (q.2.2.2.2.1 : Int))) else ty_kw e K k (some (ty_k (q.2.2.2.2.1 : Int)))) else none
      | none => none)
    | _ => none)
  | _ => none
noncomputable def ty_len (isl : Bool) (q : ex_P) (r : List ex_P) (e : ty_E) (lv : ty_L) (st : List ty_V) (K : ty_K) : ty_O := match st with
  | .inr (.inl (k, _)) :: rest => (match ex_nth ty_ct k with
    | some (.inr (_, N, _)) => bif Nat.ble N 100000 then ty_ft q r e lv (ty_i (ty_k (N : Int)) :: rest) K else none
    | _ => none)
  | .inr (.inr (.inr (.inr ()))) :: rest => bif isl && Nat.blt 0 e.1 then ty_ft q r e lv (ty_i (ty_s 0) :: rest) K else none
  | _ => none
noncomputable def ty_ald (isl : Bool) (ok : Nat → Bool) (q : ex_P) (r : List ex_P) (e : ty_E) (lv : ty_L) (st : List ty_V) (K : ty_K) : ty_O := match st with
  | .inl (.inl i) :: .inr (.inl (k, c)) :: rest => (match ex_nth ty_ct k with
    | some (.inr (t, N, f)) => bif ok t && ty_in e i 0 ((N : Int) - 1) then (match ty_rd e K k c i f (ex_any (Nat.beq k) ty_tr) with
      | some (e', K', v) => ty_ft q r e' lv (v :: rest) K'
      | none => none) else none
    | _ => none)
  | .inl (.inl i) :: .inr (.inr (.inr (.inr ()))) :: rest => bif isl && Nat.blt 0 e.1 && ok 0 && ty_ent e (ty_add (ty_k 0) i (-1)) && ty_ent e (ty_pl (ty_add i (ty_s 0) (-1)) 1) then (match ty_kf e K 1015 (ty_k 0) i with
    | some v => bif ty_isI v then ty_ft q r e lv (v :: rest) K else none
    | none => ty_ft q r (ty_fr e ty_MIN ty_MAX []) lv (ty_i (ty_s e.1) :: rest) ((1015, ty_k 0, i, ty_i (ty_s e.1)) :: K)) else none
  | _ => none
/-- what a row takes: t its type, f its places' range -/
noncomputable def ty_okw (e : ty_E) (t : Nat) (f : ty_F) (v : ty_V) : Bool := match f, v with
  | .inl (l, h), .inl (.inl u) => (Nat.beq t 0 && ty_in2 e u l h) || (Nat.beq t 1 && ty_le l (-128) && ty_le 127 h) || (Nat.beq t 3 && ty_in e u 0 1 && ty_le l 0 && ty_le 1 h)
  | .inr (.inl ()), .inl (.inr _) => Nat.beq t 2
  | _, _ => false
noncomputable def ty_ast (ms : ty_M) (ok : Nat → Bool) (q : ex_P) (r : List ex_P) (e : ty_E) (lv : ty_L) (st : List ty_V) (K : ty_K) : ty_O := match st with
  | v :: .inl (.inl i) :: .inr (.inl (k, c)) :: rest => (match ex_nth ty_ct k with
    | some (.inr (t, N, f)) => bif ok t && ty_okw e t f v && ty_in e i 0 ((N : Int) - 1) && ty_al ms k none then ty_ft q r e lv rest (bif ex_any (Nat.beq k) ty_tr && Nat.beq t 0 then (k, c, i, v) :: ty_kw e K k (some i) else ty_kw e K k none) else none
    | _ => none)
  | _ => none
noncomputable def ty_acp (ms : ty_M) (q : ex_P) (r : List ex_P) (e : ty_E) (lv : ty_L) (st : List ty_V) (K : ty_K) : ty_O := match st with
  | .inl (.inl m) :: .inl (.inl dp) :: .inr (.inl (k', _)) :: .inl (.inl sp) :: .inr (.inl (k, _)) :: rest => (match ex_nth ty_ct k, ex_nth ty_ct k' with
    | some (.inr (t, N, .inl (l, h))), some (.inr (t', N', .inl (l', h'))) => bif Nat.beq t 0 && Nat.beq t' 0 && ty_ent e (ty_add (ty_k 0) m (-1)) && ty_ent e (ty_add (ty_k 0) sp (-1)) && ty_ent e (ty_add (ty_k 0) dp (-1)) && ty_ent e (ty_pl (ty_add sp m 1) (-(N : Int))) && ty_ent e (ty_pl (ty_add dp m 1) (-(N' : Int))) && ty_le l' l && ty_le h h' && Nat.ble (ex_len rest) 4 && ty_al ms k' none then ty_ft q r e lv rest (ty_kw e K k' none) else none
    | _, _ => none)
  | _ => none
noncomputable def ty_iinc (mL : Nat) (q : ex_P) (r : List ex_P) (e : ty_E) (lv : ty_L) (st : List ty_V) (K : ty_K) : ty_O := match ex_lk lv q.2.2.2.1 with
  | some (.inl (.inl a)) => bif Nat.blt q.2.2.2.1 mL then (match ty_ok e (ty_pl a (bif Nat.ble 2147483648 q.2.2.2.2.1 then (q.2.2.2.2.1 : Int) - 4294967296 else (q.2.2.2.2.1 : Int))) with
    | (e', t) => ty_ft q r e' ((q.2.2.2.1, ty_i t) :: ty_del lv q.2.2.2.1) st K) else none
  | _ => none
noncomputable def ty_i2 (l h : Int) (q : ex_P) (r : List ex_P) (e : ty_E) (lv : ty_L) (st : List ty_V) (K : ty_K) : ty_O := match st with
  | .inl (.inl a) :: rest => bif ty_in e a l h then ty_ft q r e lv st K else ty_ft q r (ty_fr e l h []) lv (ty_i (ty_s e.1) :: rest) K
  | _ => none
noncomputable def ty_i2l (q : ex_P) (r : List ex_P) (e : ty_E) (lv : ty_L) (st : List ty_V) (K : ty_K) : ty_O := match st with
  | .inl (.inl a) :: rest => ty_ft q r e lv (ty_j a :: rest) K
  | _ => none
noncomputable def ty_l2i (q : ex_P) (r : List ex_P) (e : ty_E) (lv : ty_L) (st : List ty_V) (K : ty_K) : ty_O := match st with
  | .inl (.inr _) :: rest => ty_ft q r (ty_fr e ty_MIN ty_MAX []) lv (ty_i (ty_s e.1) :: rest) K
  | _ => none
noncomputable def ty_lb (q : ex_P) (r : List ex_P) (e : ty_E) (lv : ty_L) (st : List ty_V) (K : ty_K) : ty_O := match st with
  | .inl (.inr _) :: .inl (.inr _) :: rest => ty_ft q r (ty_fr e (-9223372036854775808) 9223372036854775807 []) lv (ty_j (ty_s e.1) :: rest) K
  | _ => none
noncomputable def ty_lsh (q : ex_P) (r : List ex_P) (e : ty_E) (lv : ty_L) (st : List ty_V) (K : ty_K) : ty_O := match st with
  | .inl (.inl _) :: .inl (.inr _) :: rest => ty_ft q r (ty_fr e (-9223372036854775808) 9223372036854775807 []) lv (ty_j (ty_s e.1) :: rest) K
  | _ => none
noncomputable def ty_lc (q : ex_P) (r : List ex_P) (e : ty_E) (lv : ty_L) (st : List ty_V) (K : ty_K) : ty_O := match st with
  | .inl (.inr b) :: .inl (.inr a) :: rest => ty_ft q r e lv (ty_c a b :: rest) K
  | _ => none
noncomputable def ty_dup (q : ex_P) (r : List ex_P) (e : ty_E) (lv : ty_L) (st : List ty_V) (K : ty_K) : ty_O := match st with
  | v :: rest => bif Nat.beq (ty_cat v) 1 then ty_ft q r e lv (v :: v :: rest) K else none
  | [] => none
noncomputable def ty_dup2 (q : ex_P) (r : List ex_P) (e : ty_E) (lv : ty_L) (st : List ty_V) (K : ty_K) : ty_O := match st with
  | v :: w :: rest => bif Nat.beq (ty_cat v) 1 && Nat.beq (ty_cat w) 1 then ty_ft q r e lv (v :: w :: v :: w :: rest) K else none
  | _ => none
noncomputable def ty_pop (q : ex_P) (r : List ex_P) (e : ty_E) (lv : ty_L) (st : List ty_V) (K : ty_K) : ty_O := match st with
  | v :: rest => bif Nat.beq (ty_cat v) 1 then ty_ft q r e lv rest K else none
  | [] => none
/-- the more, the less of two -/
noncomputable def ty_mm (mx : Bool) (q : ex_P) (r : List ex_P) (e : ty_E) (lv : ty_L) (st : List ty_V) (K : ty_K) : ty_O := match st with
  | .inl (.inl b) :: .inl (.inl a) :: rest => (match r with
    | [] => none
    | q' :: r' => bif Nat.beq q'.1 (q.1 + 3) && Nat.ble (ex_len rest) 4 then (match ty_br .lt e (bif mx then a else b) (bif mx then b else a) with
      | (T, F) => some (ex_app (ex_map (fun e => (e, (q' :: r', lv, ty_i b :: rest, K))) T) (ex_map (fun e => (e, (q' :: r', lv, ty_i a :: rest, K))) F))) else none)
  | _ => none
noncomputable def ty_inv (ms : ty_M) (q : ex_P) (r : List ex_P) (e : ty_E) (lv : ty_L) (st : List ty_V) (K : ty_K) : ty_O := bif Nat.beq q.2.2.2.2.2.1 2 then ty_mm true q r e lv st K else bif Nat.beq q.2.2.2.2.2.1 3 then ty_mm false q r e lv st K else ty_acp ms q r e lv st K
def ty_bz (t : Nat) : Bool := Nat.beq t 1 || Nat.beq t 3
noncomputable def ty_step (pr : List ex_P) (isl : Bool) (mL : Nat) (ms : ty_M) (e : ty_E) (q : ex_P) (r : List ex_P) (lv : ty_L) (st : List ty_V) (K : ty_K) : ty_O := match q.2.1 with
  | .iconst _ => ty_ft q r e lv (ty_i (ty_k ((q.2.2.2.1 : Int) - 2147483648)) :: st) K
  | .bipush _ => ty_ft q r e lv (ty_i (ty_k ((q.2.2.2.1 : Int) - 2147483648)) :: st) K
  | .sipush _ => ty_ft q r e lv (ty_i (ty_k ((q.2.2.2.1 : Int) - 2147483648)) :: st) K
  | .ldc _ => ty_ft q r e lv (ty_i (ty_k ((q.2.2.2.1 : Int) - 2147483648)) :: st) K
  | .ldc_w _ => ty_ft q r e lv (ty_i (ty_k ((q.2.2.2.1 : Int) - 2147483648)) :: st) K
  | .ldc2_w _ => ty_ft q r e lv (ty_j (ty_k (q.2.2.2.1 : Int)) :: st) K
  | .lconst _ => ty_ft q r e lv (ty_j (ty_k (q.2.2.2.1 : Int)) :: st) K
  | .iload_n _ => ty_ld q r e lv st K ty_isI
  | .iload _ => ty_ld q r e lv st K ty_isI
  | .lload_n _ => ty_ld q r e lv st K ty_isJ
  | .lload _ => ty_ld q r e lv st K ty_isJ
  | .aload_n _ => ty_ld q r e lv st K ty_isR
  | .aload _ => ty_ld q r e lv st K ty_isR
  | .istore_n _ => ty_st mL q r e lv st K ty_isI
  | .istore _ => ty_st mL q r e lv st K ty_isI
  | .lstore_n _ => ty_st2 mL q r e lv st K
  | .lstore _ => ty_st2 mL q r e lv st K
  | .astore_n _ => ty_st mL q r e lv st K ty_isR
  | .astore _ => ty_st mL q r e lv st K ty_isR
  | .iinc _ _ => ty_iinc mL q r e lv st K
  | .iadd => ty_bin q r e lv st K
  | .isub => ty_bin q r e lv st K
  | .imul => ty_bin q r e lv st K
  | .iand => ty_bin q r e lv st K
  | .ior => ty_bin q r e lv st K
  | .ixor => ty_bin q r e lv st K
  | .ishl => ty_bin q r e lv st K
  | .ishr => ty_bin q r e lv st K
  | .iushr => ty_bin q r e lv st K
  | .idiv => ty_bin q r e lv st K
  | .irem => ty_bin q r e lv st K
  | .i2b => ty_i2 (-128) 127 q r e lv st K
  | .i2c => ty_i2 0 65535 q r e lv st K
  | .i2l => ty_i2l q r e lv st K
  | .l2i => ty_l2i q r e lv st K
  | .ladd => ty_lb q r e lv st K
  | .lmul => ty_lb q r e lv st K
  | .lor => ty_lb q r e lv st K
  | .lshl => ty_lsh q r e lv st K
  | .lcmp => ty_lc q r e lv st K
  | .dup => ty_dup q r e lv st K
  | .dup2 => ty_dup2 q r e lv st K
  | .pop => ty_pop q r e lv st K
  | .goto _ => some [(e, (ex_jp pr q.2.2.2.1, lv, st, K))]
  | .ifCond c _ => ty_if1 pr q r c e lv st K
  | .if_icmp c _ => ty_if2 pr q r c e lv st K
  | .tableswitch _ _ _ _ => ty_tsw pr q e lv st K
  | .lookupswitch _ _ => ty_lsw pr q e lv st K
  | .getfield _ => ty_gf q r e lv st K
  | .putfield _ => ty_pf ms q r e lv st K
  | .arraylength => ty_len isl q r e lv st K
  | .iaload => ty_ald isl (fun t => Nat.beq t 0) q r e lv st K
  | .baload => ty_ald false ty_bz q r e lv st K
  | .laload => ty_ald false (fun t => Nat.beq t 2) q r e lv st K
  | .aaload => ty_ald false (fun t => Nat.beq t 4) q r e lv st K
  | .iastore => ty_ast ms (fun t => Nat.beq t 0) q r e lv st K
  | .bastore => ty_ast ms ty_bz q r e lv st K
  | .lastore => ty_ast ms (fun t => Nat.beq t 2) q r e lv st K
  | .invokestatic _ => ty_inv ms q r e lv st K
  | _ => none
/-! texts: their numbers are 0 and 1, their bytes' 2 and 3 -/
noncomputable def ty_str (q : ex_P) (st : List ty_V) : Bool := match q.2.1, st with
  | .ldc _, _ => Nat.beq q.2.2.2.2.2.1 9
  | .getfield _, _ => Nat.beq q.2.2.2.1 99
  | .getstatic _, _ => true
  | .arraylength, .inr (.inr (.inr (.inl _))) :: _ => true
  | .baload, _ :: .inr (.inr (.inr (.inl _))) :: _ => true
  | _, _ => false
noncomputable def ty_sst (q : ex_P) (r : List ex_P) (e : ty_E) (lv : ty_L) (st : List ty_V) (K : ty_K) : ty_O := match q.2.1, st with
  | .ldc _, st => bif Nat.blt q.2.2.2.1 2 then ty_ft q r e lv (ty_x q.2.2.2.1 :: st) K else none
  | .getstatic _, st => bif Nat.beq q.2.2.2.1 0 then ty_ft q r e lv (ty_i (ty_k 1) :: st) K else ty_ft q r e lv (ty_x 100 :: st) K
  | .getfield _, .inr (.inr (.inr (.inl n))) :: rest => bif Nat.blt n 2 then (bif Nat.beq q.2.2.2.2.1 0 then ty_ft q r e lv (ty_x (n + 2) :: rest) K else ty_ft q r e lv (ty_i (ty_k 0) :: rest) K) else none
  | .arraylength, .inr (.inr (.inr (.inl n))) :: rest => bif Nat.beq n 2 then ty_ft q r e lv (ty_i (ty_k 11) :: rest) K else bif Nat.beq n 3 then ty_ft q r e lv (ty_i (ty_k 160) :: rest) K else none
  | .baload, .inl (.inl i) :: .inr (.inr (.inr (.inl n))) :: rest => bif (Nat.beq n 2 && ty_in e i 0 10) || (Nat.beq n 3 && ty_in e i 0 159) then ty_ft q r (ty_fr e ty_MIN ty_MAX []) lv (ty_i (ty_s e.1) :: rest) K else none
  | _, _ => none
