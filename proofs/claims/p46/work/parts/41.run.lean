/-! the run: calls by contracts or walked through, up to returns and heads -/
abbrev ty_Con : Type := Nat × List ty_V × ty_E × ty_K × List ty_A × ty_M × Nat
noncomputable def ty_unb (th : ty_H) (l : List (Nat × Int)) : List (Nat × Int) := List.rec (motive := fun _ => List (Nat × Int)) [] (fun q _ ih => match ex_lk th q.1 with
  | some _ => ih
  | none => q :: ih) l
/-- one int of a term is not named yet -/
noncomputable def ty_b2 (th : ty_H) (t u : ty_t) : ty_H := match ty_unb th t.2 with
  | [(i, a)] => bif ty_0 (a - 1) then (i, ty_add u (ty_sb th t) (-1)) :: th else th
  | _ => th
noncomputable def ty_b1 (th : ty_H) (t u : ty_t) : ty_H := match t with
  | (c, [(i, a)]) => bif ty_0 c && ty_0 (a - 1) then (match ex_lk th i with
    | some _ => th
    | none => (i, u) :: th) else ty_b2 th t u
  | _ => ty_b2 th t u
noncomputable def ty_bw (th : ty_H) (tv v : ty_V) : ty_H := match tv, v with
  | .inl (.inl t), .inl (.inl u) => ty_b1 th t u
  | .inl (.inr t), .inl (.inr u) => ty_b1 th t u
  | .inr (.inl q), .inr (.inl r) => ty_b1 th q.2 r.2
  | _, _ => th
noncomputable def ty_bvs (l : List ty_V) : List ty_V → ty_H → ty_H := List.rec (motive := fun _ => List ty_V → ty_H → ty_H) (fun _ th => th) (fun tv _ ih r th => match r with
  | [] => th
  | v :: t => ih t (ty_bw th tv v)) l
noncomputable def ty_gfd (e : ty_E) (th : ty_H) (K : ty_K) (q : ty_Q) : Option ty_V := List.rec (motive := fun _ => Option ty_V) none (fun r _ ih => bif Nat.beq r.1 q.1 && (ty_eqv e (ty_sb th q.2.1) r.2.1 && ty_eqv e (ty_sb th q.2.2.1) r.2.2.1) then some r.2.2.2 else ih) K
noncomputable def ty_bK (e : ty_E) (K : ty_K) (T : ty_K) : ty_H → ty_H := List.rec (motive := fun _ => ty_H → ty_H) (fun th => th) (fun q _ ih th => match (bif ty_isG q.1 then ty_gfd e th K q else ty_kf e K q.1 (ty_sb th q.2.1) (ty_sb th q.2.2.1)) with
  | some w => ih (ty_bw th q.2.2.2 w)
  | none => ih th) T
noncomputable def ty_mle (ms' ms : ty_M) : Bool := ty_every (fun q => ty_al ms q.1 q.2) ms'
noncomputable def ty_pa (n : Nat) (K : ty_K) (po : ty_A) (x : ty_E × ty_H) : List ty_A := match ty_rfs (ex_map (ty_sb x.2) po.1.2.2) x.1 with
  | none => []
  | some e3 => [(e3, ex_map (ty_sbv x.2) po.2.1, ex_app (ex_map (ty_sbk x.2) po.2.2) K)]
noncomputable def ty_pas (n : Nat) (e : ty_E) (K : ty_K) (th : ty_H) (l : List ty_A) : List ty_A := List.rec (motive := fun _ => List ty_A) [] (fun po _ ih => ex_app (ty_pa n K po (ty_pfr po.1.2.1 (ex_range (po.1.1 - n) n) e th)) ih) l
noncomputable def ty_app1 (C : ty_Con) (as : List ty_V) (e1 : ty_E) (K1 : ty_K) (th : ty_H) : Option (List ty_A) := bif ty_vms e1 th C.2.2.1.1 C.2.1 as && (ty_insE e1 th C.2.2.1 && ty_kms e1 th C.2.2.1.1 K1 C.2.2.2.1) then some (ty_pas C.2.2.1.1 e1 (ty_kfm C.2.2.2.2.2.1 K1) th C.2.2.2.2.1) else none
noncomputable def ty_app2 (C : ty_Con) (as : List ty_V) (x : ty_E × ty_K) : Option (List ty_A) := ty_app1 C as x.1 x.2 (ty_bK x.1 x.2 C.2.2.2.1 (ty_bvs C.2.1 as []))
noncomputable def ty_app (C : ty_Con) (j d : Nat) (ms : ty_M) (e : ty_E) (K : ty_K) (as : List ty_V) : Option (List ty_A) := bif Nat.beq C.1 j && (Nat.ble C.2.2.2.2.2.2 d && ty_mle C.2.2.2.2.2.1 ms) then ty_app2 C as (ty_sat (ty_ens C.2.2.2.1 e K).1 (ty_ens C.2.2.2.1 e K).2) else none
noncomputable def ty_fst (f : ty_Con → Option (List ty_A)) (l : List ty_Con) : Option (List ty_A) := List.rec (motive := fun _ => Option (List ty_A)) none (fun C _ ih => match f C with
  | some x => some x
  | none => ih) l
theorem ty_fst_ok {f : ty_Con → Option (List ty_A)} {o : List ty_A} : ∀ {l : List ty_Con}, ty_fst f l = some o → ∃ C ∈ l, f C = some o
  | [], h => by cases h
  | C :: l, h => by
    have h : (match f C with
      | some x => some x
      | none => ty_fst f l) = some o := h
    split at h
    · rename_i x hx
      cases h
      exact ⟨C, List.mem_cons_self, hx⟩
    · obtain ⟨C', h1, h2⟩ := ty_fst_ok h
      exact ⟨C', List.mem_cons_of_mem _ h1, h2⟩
noncomputable def ty_take (n : Nat) : List ty_V → List ty_V → Option (List ty_V × List ty_V) := Nat.rec (motive := fun _ => List ty_V → List ty_V → Option (List ty_V × List ty_V)) (fun acc st => some (acc, st)) (fun _ ih acc st => match st with
  | v :: rest => ih (v :: acc) rest
  | [] => none) n
noncomputable def ty_args (l : List ty_V) (i : Nat) : ty_L := List.rec (motive := fun _ => Nat → ty_L) (fun _ => []) (fun v _ ih i => (i, v) :: ih (i + ty_cat v)) l i
noncomputable def ty_csum (l : List ty_V) : Nat := List.rec (motive := fun _ => Nat) 0 (fun v _ ih => ty_cat v + ih) l
noncomputable def ty_rcv (q : ex_P) (a : List ty_V) : Bool := match q.2.1, a with
  | .invokevirtual _, .inr (.inl p) :: _ => (match ex_nth ty_ct p.1 with
    | some (.inl o) => Nat.beq o.1 q.2.2.2.2.2.1
    | _ => false)
  | .invokevirtual _, .inr (.inr (.inr (.inl n))) :: _ => Nat.beq q.2.2.2.2.2.1 99 && Nat.blt n 2
  | .invokestatic _, _ => true
  | _, _ => false
noncomputable def ty_zok (e : ty_E) (z : Nat) (t : ty_t) : Bool := bif Nat.beq z 1 then ty_in e t 0 1 else bif Nat.beq z 2 then ty_in e t 0 65535 else bif Nat.beq z 3 then ty_in e t (-128) 127 else true
noncomputable def ty_ret1 (z : Nat) (e : ty_E) (K : ty_K) (ins : Instr) (st : List ty_V) : Option ty_A := match ins, st with
  | .ireturn, [.inl (.inl t)] => bif ty_zok e z t then some (e, [ty_i t], K) else none
  | .areturn, [v] => bif ty_isR v then some (e, [v], K) else none
  | .lreturn, [.inl (.inr t)] => some (e, [ty_j t], K)
  | .return_, [] => some (e, [], K)
  | _, _ => none
noncomputable def ty_ret (z : Nat) (o : ty_E × ty_S) : Option ty_A := match o with
  | (e, (q :: _, _, st, K)) => ty_ret1 z e K q.2.1 st
  | _ => none
noncomputable def ty_rets (z : Nat) (l : List (ty_E × ty_S)) : Option (List ty_A) := List.rec (motive := fun _ => Option (List ty_A)) (some []) (fun a _ ih => match ty_ret z a with
  | none => none
  | some x => (match ih with
    | none => none
    | some y => some (x :: y))) l
theorem ty_rets_ok {z : Nat} : ∀ {l : List (ty_E × ty_S)} {y : List ty_A}, ty_rets z l = some y → ∀ x ∈ l, ∃ a ∈ y, ty_ret z x = some a
  | [], _, _, x, hx => by cases hx
  | a :: l, y, h, x, hx => by
    have h : (match ty_ret z a with
      | none => none
      | some x => (match ty_rets z l with
        | none => none
        | some y => some (x :: y))) = some y := h
    split at h
    · cases h
    · rename_i w hw
      split at h
      · cases h
      · rename_i y' hy'
        cases h
        rcases List.mem_cons.mp hx with rfl | hx
        · exact ⟨w, List.mem_cons_self, hw⟩
        · obtain ⟨a', h1, h2⟩ := ty_rets_ok hy' x hx
          exact ⟨a', List.mem_cons_of_mem _ h1, h2⟩
noncomputable def ty_bk (r : List ex_P) (lv : ty_L) (rest : List ty_V) (a : ty_A) : ty_E × ty_S := (a.1, (r, lv, ex_app a.2.1 rest, a.2.2))
noncomputable def ty_fewA (e : ty_E) (l : List ty_V) : Option Nat := List.rec (motive := fun _ => Option Nat) none (fun v _ ih => match v with
  | .inl (.inl t) => (match ty_few 8 e t with
    | some i => some i
    | none => ih)
  | _ => ih) l
noncomputable def ty_fewK (e : ty_E) (K : ty_K) : Option Nat := match ty_kt e K ty_cM (ty_k (ty_bs : Int)) with
  | some t => ty_few 8 e t
  | none => none
abbrev ty_F1 : Type := Nat → ex_M → ty_M → ty_E → ty_S → Option (List (ty_E × ty_S))
noncomputable def ty_cl (run : ty_F1) (mt : Nat → Option ex_M) (cn : List ty_Con) (d : Nat) (ms : ty_M) (e : ty_E) (q : ex_P) (r : List ex_P) (lv : ty_L) (st : List ty_V) (K : ty_K) : ty_O := match d with
  | 0 => none
  | d' + 1 => (match ty_take q.2.2.2.2.1 [] st with
    | none => none
    | some ar => bif Nat.ble (ty_csum ar.2) 8 && (ex_nx3 q r && ty_rcv q ar.1) then
      (bif ex_any (fun C => Nat.beq C.1 q.2.2.2.1) cn then (match ty_fst (fun C => ty_app C q.2.2.2.1 d' ms e K ar.1) cn with
        | some l => some (ex_map (ty_bk r lv ar.2) l)
        | none => (match ty_fewA e ar.1 with
          | some i => ty_spl e i (q :: r, lv, st, K)
          | none => (match ty_fewK e K with
            | some i => ty_spl e i (q :: r, lv, st, K)
            | none => none)))
      else (match mt q.2.2.2.1 with
        | none => none
        | some M' => bif Nat.ble (ty_csum ar.1) M'.2.1 then (match run d' M' ms e (M'.1, ty_args ar.1 0, [], K) with
          | none => none
          | some outs => (match ty_rets M'.2.2.1 outs with
            | none => none
            | some l => some (ex_map (ty_bk r lv ar.2) l))) else none)) else none)
noncomputable def ty_alls (f : ty_E × ty_S → Option (List (ty_E × ty_S))) (l : List (ty_E × ty_S)) : Option (List (ty_E × ty_S)) := List.rec (motive := fun _ => Option (List (ty_E × ty_S))) (some []) (fun a _ ih => match f a with
  | none => none
  | some x => (match ih with
    | none => none
    | some y => some (ex_app x y))) l
noncomputable def ty_all (f : ty_E × ty_S → Option (List (ty_E × ty_S))) (l : List (ty_E × ty_S)) : Option (List (ty_E × ty_S)) := match l with
  | [a] => f a
  | l => ty_alls f l
theorem ty_alls_ok {f : ty_E × ty_S → Option (List (ty_E × ty_S))} : ∀ {l y : List (ty_E × ty_S)}, ty_alls f l = some y → ∀ a ∈ l, ∃ x, f a = some x ∧ ∀ z ∈ x, z ∈ y
  | [], _, _, a, ha => by cases ha
  | b :: l, y, h, a, ha => by
    have h : (match f b with
      | none => none
      | some x => (match ty_alls f l with
        | none => none
        | some y => some (ex_app x y))) = some y := h
    split at h
    · cases h
    · rename_i x hx
      split at h
      · cases h
      · rename_i y' hy'
        cases h
        rcases List.mem_cons.mp ha with rfl | ha
        · exact ⟨x, hx, fun z hz => by rw [ex_app_eq]; exact List.mem_append_left _ hz⟩
        · obtain ⟨x', h1, h2⟩ := ty_alls_ok hy' a ha
          exact ⟨x', h1, fun z hz => by rw [ex_app_eq]; exact List.mem_append_right _ (h2 z hz)⟩
theorem ty_all_ok {f : ty_E × ty_S → Option (List (ty_E × ty_S))} {l y : List (ty_E × ty_S)} (h : ty_all f l = some y) : ∀ a ∈ l, ∃ x, f a = some x ∧ ∀ z ∈ x, z ∈ y := by
  unfold ty_all at h
  split at h
  · rename_i b
    intro a ha
    have := List.mem_singleton.mp ha
    subst this
    exact ⟨y, h, fun z hz => hz⟩
  · exact ty_alls_ok h
abbrev ty_Fn : Type := Bool → List Nat → Nat → Bool → ex_M → ty_M → ty_E → ty_S → Option (List (ty_E × ty_S))
noncomputable def ty_st1 (run : ty_Fn) (mt : Nat → Option ex_M) (cn : List ty_Con) (d : Nat) (isl : Bool) (M : ex_M) (ms : ty_M) (q : ex_P) (r : List ex_P) (lv : ty_L) (st : List ty_V) (x : ty_E × ty_K) : ty_O := bif ty_str q st then ty_sst q r x.1 lv st x.2 else bif ty_call q then ty_cl (fun d M' ms e s => run false [] d false M' ms e s) mt cn d ms x.1 q r lv st x.2 else ty_step M.1 isl M.2.1 ms x.1 q r lv st x.2
/-- where a step says nothing, what is known is brought up to date first -/
noncomputable def ty_pre (q : ex_P) (st : List ty_V) : Bool := match q.2.1, st with
  | .iastore, _ :: _ :: .inr (.inl (k, _)) :: _ => Nat.beq k ty_cT.1
  | _, _ => false
noncomputable def ty_st0 (run : ty_Fn) (mt : Nat → Option ex_M) (cn : List ty_Con) (d : Nat) (isl : Bool) (M : ex_M) (ms : ty_M) (e : ty_E) (q : ex_P) (r : List ex_P) (lv : ty_L) (st : List ty_V) (K : ty_K) : ty_O := bif ty_pre q st then ty_st1 run mt cn d isl M ms q r lv st (ty_sat e K) else match ty_st1 run mt cn d isl M ms q r lv st (e, K) with
  | some l => some l
  | none => bif ty_satw K then ty_st1 run mt cn d isl M ms q r lv st (ty_sat e K) else none
noncomputable def ty_sp (run : ty_Fn) (mt : Nat → Option ex_M) (cn : List ty_Con) (cuts : List Nat) (d : Nat) (isl : Bool) (M : ex_M) (ms : ty_M) (e : ty_E) (q : ex_P) (r : List ex_P) (lv : ty_L) (st : List ty_V) (K : ty_K) : Option (List (ty_E × ty_S)) := match ty_st0 run mt cn d isl M ms e q r lv st K with
  | none => none
  | some l => ty_all (fun x => run false cuts d isl M ms x.1 x.2) l
noncomputable def ty_run (mt : Nat → Option ex_M) (cn : List ty_Con) (f : Nat) : ty_Fn := Nat.rec (motive := fun _ => ty_Fn) (fun _ _ _ _ _ _ _ _ => none) (fun _ ih first cuts d isl M ms e s => match s with
  | ([], _) => none
  | (q :: r, lv, st, K) => bif ty_end q || (!first && ex_any (Nat.beq q.1) cuts) then some [(e, s)] else ty_sp ih mt cn cuts d isl M ms e q r lv st K) f
/-! what it says -/
/-- an answer, and what is so then -/
def ty_An (D : va_G) (b : Nat) (sa : Nat → Nat) (ρ : Nat → Int) (n : Nat) (ms : ty_M) (ws : va_W) (tys : List (ClassId × FieldType)) (A : Nat → Prop) (a : ty_A) (oc : Outcome) (t : State) : Prop := ∃ (ρ' : Nat → Int) (vo : Option Value) (ws' : va_W), oc = .returned vo ∧ ty_ag n ρ ρ' ∧ n ≤ a.1.1 ∧ ty_er ρ' a.1 ∧ ty_sr b sa a.1.1 ρ' ws' a.2.1 vo.toList ∧ ty_Kr b sa a.1.1 ρ' ws' a.2.2 ∧ ty_th tys ws' ∧ ty_frm ms ws ws' ∧ va_P D vwCl ws' t.heap ∧ va_K D vwCl tys t ∧ va_D A ws' ∧ ex_xt ws ws'
def ty_Qc (D : va_G) (b : Nat) (sa : Nat → Nat) (ρ : Nat → Int) (n : Nat) (ms : ty_M) (ws : va_W) (tys : List (ClassId × FieldType)) (sz : Nat) (outs : List ty_A) : Array Value → State → Outcome → State → Prop := fun _ st oc t => (∃ a ∈ outs, ty_An D b sa ρ n ms ws tys (va_A ws sz) a oc t) ∧ va_F (va_A ws sz) st t
abbrev ty_Rm (d : Nat) : Room := { frames := d + 1, cells := 0, slots := 0, locals := 60 * (d + 1) }
/-- a start of one who is called -/
def ty_Pc (D : va_G) (sa : Nat → Nat) (ws : va_W) (tys : List (ClassId × FieldType)) (sz : Nat) (U : State) : Prop := ex_Pc D ws tys sz U ∧ ty_Z sa (va_A ws sz) U
def ty_ConOk (mi : Nat → Option ex_I) (l : Launch) (C : ty_Con) : Prop := ∃ (I : ex_I) (nL : Nat), mi C.1 = some I ∧ ty_MS I nL ∧ ∀ (D : va_G) (b : Nat) (sa : Nat → Nat) (σ : Nat → Int) (ws : va_W) (tys : List (ClassId × FieldType)) (va : List Value) (sz : Nat), ty_er σ C.2.2.1 → ty_sr b sa C.2.2.1.1 σ ws C.2.1 va → ty_Kr b sa C.2.2.1.1 σ ws C.2.2.2.1 → ty_th tys ws →
  Met l I.1 (Cond.code I.1 I.2.1 nL I.2.2.1 :: ex_tb) (ty_Rm C.2.2.2.2.2.2) (va_Pc va (ty_Pc D sa ws tys sz)) (ty_Qc D b sa σ C.2.2.1.1 C.2.2.2.2.2.1 ws tys sz C.2.2.2.2.1) 0 0 (va_A ws sz)
section TYA
variable {D : va_G} {b : Nat} {sa : Nat → Nat} {ρ σ : Nat → Int} {ws : va_W} {tys : List (ClassId × FieldType)} {A : Nat → Prop} {e : ty_E} {K : ty_K}
theorem ty_mle_ok {ms' ms : ty_M} (h : ty_mle ms' ms = true) {k i : Nat} (ha : ty_al ms k (some i) = false) : ty_al ms' k (some i) = false := by
  cases hb : ty_al ms' k (some i) with
  | false => rfl
  | true =>
    obtain ⟨q, h1, h2⟩ := ty_any_t hb
    obtain ⟨h2, h3⟩ := ex_and h2
    have h4 := ty_every_t h q h1
    obtain ⟨q1, q2⟩ := q
    have h2 : q1 = k := ex_beq h2
    subst h2
    cases q2 with
    | none => rw [ty_al_n h4 i] at ha; cases ha
    | some a =>
      have h3 : a = i := ex_beq h3
      subst h3
      have h4 : ty_al ms q1 (some a) = true := h4
      rw [h4] at ha
      cases ha
theorem ty_frm.le {ms' ms : ty_M} {w0 ws : va_W} (h : ty_mle ms' ms = true) (hf : ty_frm ms' w0 ws) : ty_frm ms w0 ws := fun j k hk a ev0 h0 => by
  obtain ⟨ev, h1, h2⟩ := hf j k hk a ev0 h0
  exact ⟨ev, h1, fun i hi => h2 i (ty_mle_ok h hi)⟩
theorem ty_frm.trans {ms : ty_M} {w0 w1 w2 : va_W} (h : ty_frm ms w0 w1) (h' : ty_frm ms w1 w2) : ty_frm ms w0 w2 := fun j k hk a ev0 h0 => by
  obtain ⟨ev1, h1, h2⟩ := h j k hk a ev0 h0
  obtain ⟨ev2, h3, h4⟩ := h' j k hk a ev1 h1
  exact ⟨ev2, h3, fun i hi => (h4 i hi).trans (h2 i hi)⟩
theorem ty_frm.rf {ms : ty_M} {w : va_W} : ty_frm ms w w := fun _ _ _ _ ev0 h0 => ⟨ev0, h0, fun _ _ => rfl⟩
theorem ty_pas_m {n : Nat} {K : ty_K} {th : ty_H} {po : ty_A} {x : ty_A} : ∀ {l : List ty_A}, po ∈ l → x ∈ ty_pa n K po (ty_pfr po.1.2.1 (ex_range (po.1.1 - n) n) e th) → x ∈ ty_pas n e K th l
  | [], h, _ => by cases h
  | q :: l, h, hx => by
    show x ∈ ex_app (ty_pa n K q (ty_pfr q.1.2.1 (ex_range (q.1.1 - n) n) e th)) (ty_pas n e K th l)
    rw [ex_app_eq]
    rcases List.mem_cons.mp h with rfl | h
    · exact List.mem_append_left _ hx
    · exact List.mem_append_right _ (ty_pas_m h hx)
/-- an answer of a contract in the caller's names -/
theorem ty_pa_ok {n : Nat} {th : ty_H} {ms ms' : ty_M} {po : ty_A} {l : List ty_A} {oc : Outcome} {t : State} (he : ty_er ρ e) (hK : ty_Kr b sa e.1 ρ ws K) (hth : ty_th tys ws) (ht : ty_tq n th e.1 ρ σ) (hm : ty_mle ms' ms = true) (hp : po ∈ l) (ha : ty_An D b sa σ n ms' ws tys A po oc t) : ∃ a ∈ ty_pas n e (ty_kfm ms' K) th l, ty_An D b sa ρ e.1 ms ws tys A a oc t := by
  obtain ⟨σ', vo, ws', a1, a2, a3, a4, a5, a6, a7, a8, a9, a10, a11, a12⟩ := ha
  have ht' : ty_tq n th e.1 ρ σ' := fun i hi => ⟨(ht i hi).1, (ht i hi).2.trans (a2 i hi)⟩
  obtain ⟨ρ', b1, b2, b3, b4⟩ := ty_pfr_ok a4.1 (po.1.1 - n) n he ht'
  rw [show n + (po.1.1 - n) = po.1.1 by omega] at b4
  have hcs : ∀ c ∈ ex_map (ty_sb (ty_pfr po.1.2.1 (ex_range (po.1.1 - n) n) e th).2) po.1.2.2, ty_sc (ty_pfr po.1.2.1 (ex_range (po.1.1 - n) n) e th).1.1 c ∧ ty_ev ρ' c ≤ 0 := fun c hc => by
    rw [ex_map_eq] at hc
    obtain ⟨c0, hc0, rfl⟩ := List.mem_map.mp hc
    obtain ⟨k1, k2⟩ := a4.2 c0 hc0
    obtain ⟨k3, k4⟩ := ty_sb_ok b4 k1
    exact ⟨k3, by rw [k4]; exact k2⟩
  obtain ⟨e3, c1, c2, c3⟩ := ty_rfs_ok _ b2 hcs
  refine ⟨(e3, ex_map (ty_sbv (ty_pfr po.1.2.1 (ex_range (po.1.1 - n) n) e th).2) po.2.1, ex_app (ex_map (ty_sbk (ty_pfr po.1.2.1 (ex_range (po.1.1 - n) n) e th).2) po.2.2) (ty_kfm ms' K)), ty_pas_m hp ?_, ρ', vo, ws', a1, b1, ?_, c2, ?_, ?_, a7, a8.le hm, a9, a10, a11, a12⟩
  · unfold ty_pa
    rw [c1]
    exact List.mem_singleton.mpr rfl
  · show e.1 ≤ e3.1
    rw [c3]
    exact b3
  · show ty_sr b sa e3.1 ρ' ws' (ex_map _ po.2.1) vo.toList
    rw [ex_map_eq, c3]
    exact ty_sbvs_ok b4 a5
  · show ty_Kr b sa e3.1 ρ' ws' (ex_app (ex_map _ po.2.2) (ty_kfm ms' K))
    rw [ex_map_eq, ex_app_eq, c3]
    intro q hq
    rcases List.mem_append.mp hq with hq | hq
    · obtain ⟨q0, hq0, rfl⟩ := List.mem_map.mp hq
      exact ty_sbk_ok b4 (a6 q0 hq0)
    · exact (hK.call hth a8 a12).mono b1 b3 q hq
theorem ty_app_ok {C : ty_Con} {j d : Nat} {ms : ty_M} {as : List ty_V} {l : List ty_A} {va : List Value} (h : ty_app C j d ms e K as = some l) (he : ty_er ρ e) (hK : ty_Kr b sa e.1 ρ ws K) (hth : ty_th tys ws) (hs : ty_sr b sa e.1 ρ ws as va) :
    C.1 = j ∧ C.2.2.2.2.2.2 ≤ d ∧ ∃ σ, ty_er σ C.2.2.1 ∧ ty_sr b sa C.2.2.1.1 σ ws C.2.1 va ∧ ty_Kr b sa C.2.2.1.1 σ ws C.2.2.2.1 ∧ ∀ oc t, (∃ po ∈ C.2.2.2.2.1, ty_An D b sa σ C.2.2.1.1 C.2.2.2.2.2.1 ws tys A po oc t) → ∃ a ∈ l, ty_An D b sa ρ e.1 ms ws tys A a oc t := by
  obtain ⟨h1, h⟩ := ex_bifs h
  obtain ⟨h1, h2⟩ := ex_and h1
  obtain ⟨h2, h3⟩ := ex_and h2
  refine ⟨ex_beq h1, ex_ble h2, ?_⟩
  obtain ⟨ρ1, a1, a2, a3, a4⟩ := ty_ens_ok C.2.2.2.1 he hK hth
  obtain ⟨s1, s2, s3⟩ := ty_sat_ok hth a2 a4
  unfold ty_app2 ty_app1 at h
  obtain ⟨h4, h⟩ := ex_bifs h
  obtain ⟨h4, h5⟩ := ex_and h4
  obtain ⟨h5, h6⟩ := ex_and h5
  cases h
  obtain ⟨t1, t2⟩ := ty_insE_ok s1 h5
  have hs' : ty_sr b sa (ty_sat (ty_ens C.2.2.2.1 e K).1 (ty_ens C.2.2.2.1 e K).2).1.1 ρ1 ws as va := by rw [s2]; exact hs.mono a1 a3 ex_xt.rf
  have hK' : ty_Kr b sa (ty_sat (ty_ens C.2.2.2.1 e K).1 (ty_ens C.2.2.2.1 e K).2).1.1 ρ1 ws (ty_sat (ty_ens C.2.2.2.1 e K).1 (ty_ens C.2.2.2.1 e K).2).2 := by rw [s2]; exact s3
  refine ⟨_, t2, ty_vms_ok s1 t1 h4 hs', ty_kms_ok s1 t1 hK' h6, fun oc t hp => ?_⟩
  obtain ⟨po, hp, ha⟩ := hp
  obtain ⟨a, ha1, ρ', vo, ws', c1, c2, c3, c4⟩ := ty_pa_ok s1 hK' hth t1 h3 hp ha
  refine ⟨a, ha1, ρ', vo, ws', c1, a1.tr (c2) (by rw [s2]; exact a3), Nat.le_trans a3 (by rw [← s2]; exact c3), c4⟩
theorem ty_take_ok : ∀ {k : Nat} {acc st as rest : List ty_V}, ty_take k acc st = some (as, rest) → ∀ {n : Nat} {xa xs : List Value}, ty_sr b sa n ρ ws acc xa → ty_sr b sa n ρ ws st xs → ∃ va xr, ty_sr b sa n ρ ws as va ∧ ty_sr b sa n ρ ws rest xr ∧ va.length = k + xa.length ∧ xa.reverse ++ xs = va.reverse ++ xr
  | 0, acc, st, as, rest, h, n, xa, xs, h1, h3 => by
    have h : some (acc, st) = some (as, rest) := h
    cases h
    exact ⟨xa, xs, h1, h3, by omega, rfl⟩
  | k + 1, acc, st, as, rest, h, n, xa, xs, h1, h3 => by
    cases st with
    | nil => cases (show none = some (as, rest) from h)
    | cons v t =>
      have g2 : ty_take k (v :: acc) t = some (as, rest) := h
      obtain ⟨x, xr, rfl, hv, hr⟩ := ty_sr_cons h3
      obtain ⟨va, xr', c1, c2, c4, c5⟩ := ty_take_ok g2 (xa := x :: xa) (xs := xr) ⟨hv, h1⟩ hr
      refine ⟨va, xr', c1, c2, by rw [List.length_cons] at c4; omega, ?_⟩
      rw [← c5, List.reverse_cons, List.append_assoc]
      rfl
theorem ty_args_ok {n : Nat} : ∀ {as : List ty_V} {va : List Value}, ty_sr b sa n ρ ws as va → ∀ i : Nat, ty_lr b sa n ρ ws (ty_args as i) (lv_args i va) ∧ (lg_sl va).length = ty_csum as
  | [], [], _, _ => ⟨trivial, rfl⟩
  | [], _ :: _, h, _ => h.elim
  | _ :: _, [], h, _ => h.elim
  | v :: t, x :: r, h, i => by
    have hx : x.category = ty_cat v := ty_cat_ok h.1
    obtain ⟨i1, i2⟩ := ty_args_ok h.2 (i + ty_cat v)
    have hc := lv_cat x
    refine ⟨?_, ?_⟩
    · show ty_lr b sa n ρ ws ((i, v) :: ty_args t (i + ty_cat v)) ((i, x) :: lv_args (if x.category = 2 then i + 2 else i + 1) r)
      have e1 : (if x.category = 2 then i + 2 else i + 1) = i + ty_cat v := by
        split <;> omega
      rw [e1]
      exact ⟨⟨rfl, h.1⟩, i1⟩
    · show (lg_sl (x :: r)).length = ty_cat v + ty_csum t
      unfold lg_sl at i2 ⊢
      rw [List.flatMap_cons, List.length_append, i2, ← hx]
      split
      · show 2 + _ = _
        omega
      · show 1 + _ = _
        omega
theorem ty_csum_ok {n : Nat} : ∀ {st : List ty_V} {xs : List Value}, ty_sr b sa n ρ ws st xs → (xs.map fun v => v.category).sum = ty_csum st
  | [], [], _ => rfl
  | [], _ :: _, h => h.elim
  | _ :: _, [], h => h.elim
  | v :: t, x :: r, h => by
    have ih := ty_csum_ok h.2
    rw [List.map_cons, List.sum_cons, ih, ty_cat_ok h.1]
    rfl
end TYA
