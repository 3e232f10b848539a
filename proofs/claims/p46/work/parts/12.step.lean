noncomputable def ex_pk (own nm : String) (q : ex_P) : Bool := match q with
  | (pc, ins, len, a1, a2, a3, ts) => (match ins with
    | .iconst i => Nat.beq len 1 && Nat.beq (ex_u (Int32.ofInt i)) a1
    | .bipush i => Nat.beq len 2 && Nat.beq (ex_u (Int8.ofInt i).toInt32) a1
    | .sipush i => Nat.beq len 3 && Nat.beq (ex_u (Int16.ofInt i).toInt32) a1
    | .ldc i => Nat.beq len 2 && Nat.beq (ex_u (ex_i a1)) a1 && ex_wd a2 (Cond.constant own i (ex_i a1))
    | .ldc_w i => Nat.beq len 3 && Nat.beq (ex_u (ex_i a1)) a1 && ex_wd a2 (Cond.constant own i (ex_i a1))
    | .lconst k => Nat.beq len 1 && Nat.beq k.val a1
    | .iload_n k => Nat.beq len 1 && Nat.beq k.val a1
    | .iload k => Nat.beq len 2 && Nat.beq k a1
    | .aload_n k => Nat.beq len 1 && Nat.beq k.val a1
    | .aload k => Nat.beq len 2 && Nat.beq k a1
    | .istore_n k => Nat.beq len 1 && Nat.beq k.val a1
    | .istore k => Nat.beq len 2 && Nat.beq k a1
    | .astore_n k => Nat.beq len 1 && Nat.beq k.val a1
    | .astore k => Nat.beq len 2 && Nat.beq k a1
    | .iinc k i => Nat.beq len 3 && Nat.beq k a1 && Nat.beq (Int32.ofInt i).toBitVec.toNat a2
    | .iadd => Nat.beq len 1
    | .isub => Nat.beq len 1
    | .imul => Nat.beq len 1
    | .iand => Nat.beq len 1
    | .ior => Nat.beq len 1
    | .ixor => Nat.beq len 1
    | .ishl => Nat.beq len 1
    | .ishr => Nat.beq len 1
    | .idiv => Nat.beq len 1
    | .irem => Nat.beq len 1
    | .i2b => Nat.beq len 1
    | .dup => Nat.beq len 1
    | .dup2 => Nat.beq len 1
    | .pop => Nat.beq len 1
    | .goto off => Nat.beq len 3 && decide ((pc : Int) + off = (a1 : Int))
    | .ifCond _ off => Nat.beq len 3 && decide ((pc : Int) + off = (a1 : Int))
    | .if_icmp _ off => Nat.beq len 3 && decide ((pc : Int) + off = (a1 : Int))
    | .tableswitch df lo hi offs => decide ((pc : Int) + df = (a1 : Int)) && decide (lo + 2147483648 = (a2 : Int)) && decide (hi - lo + 1 = (ts.length : Int)) && decide (offs.toList.map (fun z => (pc : Int) + z) = ts.map (fun t : Nat => (t : Int)))
    | .lookupswitch df ps => decide ((pc : Int) + df = (a1 : Int)) && (match ts with
      | [k0, t0, k1, t1] => (match ps.toList with
        | [p0, p1] => decide (p0.1 + 2147483648 = (k0 : Int)) && decide (p1.1 + 2147483648 = (k1 : Int)) && decide ((pc : Int) + p0.2 = (t0 : Int)) && decide ((pc : Int) + p1.2 = (t1 : Int)) && decide (p0.1 < p1.1)
        | _ => false)
      | _ => false)
    | .getfield ix => Nat.beq len 3 && (match vwCl[a1]?, ts with
      | some rc, [wi] => Nat.blt a2 rc.2.2 && ex_wd wi (Cond.fieldLink own ix (rc.2.1 a2).1 (rc.2.1 a2).2.1 (rc.2.1 a2).2.2.1)
      | _, _ => false)
    | .putfield ix => Nat.beq len 3 && (match vwCl[a1]?, ts with
      | some rc, [wi] => Nat.blt a2 rc.2.2 && ex_wd wi (Cond.fieldLink own ix (rc.2.1 a2).1 (rc.2.1 a2).2.1 (rc.2.1 a2).2.2.1) && (!(rc.2.1 a2).2.2.2 || (decide (nm = "<init>") && decide ((rc.2.1 a2).1 = own))) && ex_tk a3 (rc.2.1 a2).2.2.1
      | _, _ => false)
    | .new ix => Nat.beq len 3 && (match vwCl[a1]?, ts with
      | some rc, [wi] => Nat.beq a2 rc.2.2 && ex_wd wi (Cond.classLink own ix rc.1)
      | _, _ => false)
    | .newarray at_ => Nat.beq len 2 && decide (newarray.typeOf at_ = ex_ty a1) && Nat.ble a1 3
    | .anewarray ix => Nat.beq len 3 && Nat.beq a1 4 && (match ts with
      | [wi] => ex_wd wi (Cond.classLink own ix "HatchLights$Scene")
      | _ => false)
    | .arraylength => Nat.beq len 1
    | .iaload => Nat.beq len 1
    | .baload => Nat.beq len 1
    | .aaload => Nat.beq len 1
    | .iastore => Nat.beq len 1
    | .bastore => Nat.beq len 1
    | .lastore => Nat.beq len 1
    | .aastore => Nat.beq len 1
    | .invokestatic ix => Nat.beq len 3 && (match ts with
      | [wi] => ex_wd wi (Cond.methodLink own ix arraycopyName)
      | _ => false)
    | .invokespecial ix => Nat.beq len 3 && (match ts with
      | [wi] => ex_wd wi (Cond.methodLink own ix objectInit)
      | _ => false)
    | _ => false)
/-- the words that all share -/
def ex_gw : Prop := (∀ t, t ≤ 3 → Cond.arrayClass (ex_ty t) ∈ ex_tb) ∧ (Cond.native arraycopyName ∈ ex_tb ∧ Cond.static arraycopyName ∈ ex_tb ∧ Cond.initialized "java/lang/System" ∈ ex_tb) ∧ (Cond.instanceMethod objectInit ∈ ex_tb ∧ Cond.code objectInit ⟨#[0xb1]⟩ 1 none ∈ ex_tb) ∧ ∀ (ci : Nat) (rc : vw_C), vwCl[ci]? = some rc → Cond.instantiable rc.1 rc.2.2 ∈ ex_tb ∧ Cond.initialized rc.1 ∈ ex_tb
/-- what a new object's fields hold -/
def ex_gd (df : Nat → List ex_V) : Prop := ∀ (ci : Nat) (rc : vw_C), vwCl[ci]? = some rc → (df ci).length = rc.2.2 ∧ ∀ (ty0 : Nat → FieldType), (∀ k, k < rc.2.2 → parseFieldDescriptor (rc.2.1 k).2.2.1 = some (ty0 k)) → ∃ fs : List Value, fs.length = rc.2.2 ∧ (∀ j, j < rc.2.2 → defaultValue (ty0 j) = vp_V fs j) ∧ ∀ (j : Nat) (v : ex_V), ex_nth (df ci) j = some v → ∀ (ρ : Nat → Int32) (b : Nat) (ws : va_W), ∃ x, fs[j]? = some x ∧ ex_vr ρ b ws v x
theorem ex_u_inc (x : Int32) (z : Int32) : ex_u (x + z) = (ex_u x + z.toBitVec.toNat) % 4294967296 := by
  have h1 := x.toBitVec.isLt
  have h2 := z.toBitVec.isLt
  rw [ex_u_add]
  unfold ex_u
  omega
section EXT
variable {p : Program} {l : Launch} {e : Env} {R : Room} {s : State} {m : MethodId} {args : Array Value} {below : List Frame} {meth : Method} {c : Code} {Q : State → Prop} {D : va_G} {ρ : Nat → Int32} {b L : Nat} {A : Nat → Prop} {mL d : Nat} {w0 : va_W} {t0 : List (ClassId × FieldType)} {pr : List ex_P} {own nm : String} {cd : ByteArray} {cap : Nat × Nat} {isl : Bool}
variable {en : ex_E} {lv : ex_L} {st : List ex_V} {h : ex_H} {n k1 k2 : Nat} {ls : Array Slot} {xs : List Value} {ws : va_W} {tys : List (ClassId × FieldType)} {H : Heap} {locs : List Loc} {q : ex_P} {r : List ex_P} {o : List (ex_E × ex_S)}
theorem ex_isR_ok {v : ex_V} {x : Value} (hv : ex_vr ρ b ws v x) (hk : ex_isR v = true) : x = .null ∨ ∃ a, x = .ref a := by
  rcases v with v | (_ | k) | z | _
  · cases hk
  · exact Or.inl hv
  · obtain ⟨a, ev, -, rfl⟩ := hv
    exact Or.inr ⟨a, rfl⟩
  · cases hk
  · exact Or.inr ⟨b, hv⟩
theorem ex_ifs_isI {cn : ClassFile.Cond} {va vb : ex_V} {rest : List ex_V} (hs : ex_ifs pr q r cn en lv va vb rest h n k1 k2 = some o) : ex_isI va = true := by
  unfold ex_ifs at hs
  split at hs
  · cases hs
  · rename_i tf htf
    unfold ex_br at htf
    split at htf
    · cases htf
    · rename_i qa ha
      exact ex_b_isI ha
theorem ex_ifs_isJ {cn : ClassFile.Cond} {va vb : ex_V} {rest : List ex_V} (hs : ex_ifs pr q r cn en lv va vb rest h n k1 k2 = some o) : ex_isI vb = true := by
  unfold ex_ifs at hs
  split at hs
  · cases hs
  · rename_i tf htf
    unfold ex_br at htf
    split at htf
    · cases htf
    · split at htf
      · cases htf
      · rename_i qb hb
        exact ex_b_isI hb
set_option maxHeartbeats 4000000 in
theorem ex_step_ok {df : Nat → List ex_V} (hgw : ex_gw) (hgd : ex_gd df) (X : ex_X p R s m args meth c ρ b L A own nm cd mL d cap isl) (hk : ex_pk own nm q = true) (hdg : decode cd q.1 = .ok (q.2.1, q.2.2.1))
    (hs : ex_step pr isl L mL cap df en q r lv st h n k1 k2 = some o) (hN : ex_N p l e R s m args below meth c Q D ρ b A mL w0 t0 pr o) (hsub : ∀ x ∈ q :: r, x ∈ pr) (hR : ex_Rl s D ρ b A mL w0 t0 en lv st h n ls xs ws tys H locs) : W p l e R s m args below meth c H locs k1 k2 Q (F0 m q.1 ls xs) := by
  obtain ⟨x1, x2, x3, x4, x5, x6, x7, x8, x9, x10, x11, x12, x13⟩ := id X
  obtain ⟨pc, ins, len, a1, a2, a3, ts⟩ := q
  have hdg : decode cd pc = .ok (ins, len) := hdg
  cases ins with
  | iconst i =>
    obtain ⟨e1, e2⟩ := ex_and hk
    cases ex_beq e1
    exact lv_iconst x1 x2 hdg rfl (ex_ft_ok hs hN.g hsub (hR.push (ex_k_ok _ (ex_beq e2))))
  | bipush i =>
    obtain ⟨e1, e2⟩ := ex_and hk
    cases ex_beq e1
    exact lv_bipush x1 x2 hdg rfl (ex_ft_ok hs hN.g hsub (hR.push (ex_k_ok _ (ex_beq e2))))
  | sipush i =>
    obtain ⟨e1, e2⟩ := ex_and hk
    cases ex_beq e1
    exact lv_sipush x1 x2 hdg rfl (ex_ft_ok hs hN.g hsub (hR.push (ex_k_ok _ (ex_beq e2))))
  | ldc i =>
    obtain ⟨e1, e3⟩ := ex_and hk
    obtain ⟨e1, e2⟩ := ex_and e1
    cases ex_beq e1
    exact lv_ldc x1 x2 x4 (x5 _ (ex_wd_ok e3)) hdg (ex_ft_ok hs hN.g hsub (hR.push (ex_k_ok _ (ex_beq e2))))
  | ldc_w i =>
    obtain ⟨e1, e3⟩ := ex_and hk
    obtain ⟨e1, e2⟩ := ex_and e1
    cases ex_beq e1
    exact lv_ldcw x1 x2 x4 (x5 _ (ex_wd_ok e3)) hdg (ex_ft_ok hs hN.g hsub (hR.push (ex_k_ok _ (ex_beq e2))))
  | lconst k =>
    obtain ⟨e1, e2⟩ := ex_and hk
    cases ex_beq e1
    exact lv_lconst x1 x2 hdg (by rw [ex_beq e2]) (ex_ft_ok hs hN.g hsub (hR.push (v := ex_j (Int64.ofNat a1)) rfl))
  | iload_n k =>
    obtain ⟨e1, e2⟩ := ex_and hk
    cases ex_beq e1
    refine ex_ld_ok hs hN hsub hR (fun v x ok hv hl W1 => ?_)
    obtain ⟨y, rfl⟩ := ex_vr_int hv ok
    exact lv_iload_n x1 x2 hdg (ex_beq e2) hl W1
  | iload k =>
    obtain ⟨e1, e2⟩ := ex_and hk
    cases ex_beq e1
    cases ex_beq e2
    refine ex_ld_ok hs hN hsub hR (fun v x ok hv hl W1 => ?_)
    obtain ⟨y, rfl⟩ := ex_vr_int hv ok
    exact lv_iload x1 x2 hdg hl W1
  | aload_n k =>
    obtain ⟨e1, e2⟩ := ex_and hk
    cases ex_beq e1
    refine ex_ld_ok hs hN hsub hR (fun v x ok hv hl W1 => ?_)
    rcases ex_isR_ok hv ok with rfl | ⟨y, rfl⟩
    · exact lv_aload_nN x1 x2 hdg (ex_beq e2) hl W1
    · exact lv_aload_n x1 x2 hdg (ex_beq e2) hl W1
  | aload k =>
    obtain ⟨e1, e2⟩ := ex_and hk
    cases ex_beq e1
    cases ex_beq e2
    refine ex_ld_ok hs hN hsub hR (fun v x ok hv hl W1 => ?_)
    rcases ex_isR_ok hv ok with rfl | ⟨y, rfl⟩
    · exact lv_aloadN x1 x2 hdg hl W1
    · exact lv_aload x1 x2 hdg hl W1
  | istore_n k =>
    obtain ⟨e1, e2⟩ := ex_and hk
    cases ex_beq e1
    refine ex_st_ok hs hN hsub hR (fun v x xr lw ok hv hl hn W1 => ?_)
    obtain ⟨y, rfl⟩ := ex_vr_int hv ok
    exact lv_istore_n x1 x2 hdg (ex_beq e2) hl hn rfl W1
  | istore k =>
    obtain ⟨e1, e2⟩ := ex_and hk
    cases ex_beq e1
    cases ex_beq e2
    refine ex_st_ok hs hN hsub hR (fun v x xr lw ok hv hl hn W1 => ?_)
    obtain ⟨y, rfl⟩ := ex_vr_int hv ok
    exact lv_istore x1 x2 hdg hl hn rfl W1
  | astore_n k =>
    obtain ⟨e1, e2⟩ := ex_and hk
    cases ex_beq e1
    refine ex_st_ok hs hN hsub hR (fun v x xr lw ok hv hl hn W1 => ?_)
    rcases ex_isR_ok hv ok with rfl | ⟨y, rfl⟩
    · exact lv_astore_nN x1 x2 hdg (ex_beq e2) hl hn rfl W1
    · exact lv_astore_n x1 x2 hdg (ex_beq e2) hl hn rfl W1
  | astore k =>
    obtain ⟨e1, e2⟩ := ex_and hk
    cases ex_beq e1
    cases ex_beq e2
    refine ex_st_ok hs hN hsub hR (fun v x xr lw ok hv hl hn W1 => ?_)
    rcases ex_isR_ok hv ok with rfl | ⟨y, rfl⟩
    · exact lv_astoreN x1 x2 hdg hl hn rfl W1
    · exact lv_astore x1 x2 hdg hl hn rfl W1
  | iinc k i =>
    obtain ⟨e1, e3⟩ := ex_and hk
    obtain ⟨e1, e2⟩ := ex_and e1
    cases ex_beq e1
    cases ex_beq e2
    have e3 := ex_beq e3
    have hs : (match ex_lk lv a1 with
      | some v => (match ex_cst en v with
        | some u => bif ex_isI v && Nat.blt a1 mL then ex_ft (pc, .iinc a1 i, 3, a1, a2, a3, ts) r en ((a1, ex_k ((u + a2) % 4294967296)) :: ex_del lv a1) st h n k1 k2 else none
        | none => none)
      | none => none) = some o := hs
    split at hs
    · rename_i v hv
      split at hs
      · rename_i u hu
        obtain ⟨g1, g2⟩ := ex_bifs hs
        obtain ⟨g1, g3⟩ := ex_and g1
        obtain ⟨lw, hl, hlr⟩ := hR.1
        obtain ⟨j, x, f1, f2⟩ := ex_lr_lk hlr hv
        obtain ⟨y, rfl⟩ := ex_vr_int f2 g1
        have e4 := ex_cst_ok hR.er hu f2
        refine lv_iinc x1 x2 hdg hl f1 rfl (ex_blt g3) rfl (fun ls' hl' => ?_)
        exact ex_ft_ok g2 hN.g hsub (hR.loc (lv' := (a1, ex_k ((u + a2) % 4294967296)) :: ex_del lv a1) ⟨_, hl', (show ex_lr ρ b ws ((a1, ex_k ((u + a2) % 4294967296)) :: ex_del lv a1) ((a1, .int (y + Int32.ofInt i)) :: ex_flt a1 lw) from ⟨⟨rfl, ex_k_ok _ (by rw [ex_u_inc, e4, e3])⟩, ex_lr_del hlr _⟩)⟩)
      · cases hs
    · cases hs
  | iadd =>
    cases ex_beq hk
    exact ex_bin_ok hs hN hsub hR (fun x y rest => ⟨_, rfl, fun hz W1 => lv_iadd x1 x2 hdg W1⟩)
  | isub =>
    cases ex_beq hk
    exact ex_bin_ok hs hN hsub hR (fun x y rest => ⟨_, rfl, fun hz W1 => lv_isub x1 x2 hdg W1⟩)
  | imul =>
    cases ex_beq hk
    exact ex_bin_ok hs hN hsub hR (fun x y rest => ⟨_, rfl, fun hz W1 => lv_imul x1 x2 hdg W1⟩)
  | iand =>
    cases ex_beq hk
    exact ex_bin_ok hs hN hsub hR (fun x y rest => ⟨_, rfl, fun hz W1 => lv_iand x1 x2 hdg W1⟩)
  | ior =>
    cases ex_beq hk
    exact ex_bin_ok hs hN hsub hR (fun x y rest => ⟨_, rfl, fun hz W1 => lv_ior x1 x2 hdg W1⟩)
  | ixor =>
    cases ex_beq hk
    exact ex_bin_ok hs hN hsub hR (fun x y rest => ⟨_, rfl, fun hz W1 => lv_ixor x1 x2 hdg W1⟩)
  | ishl =>
    cases ex_beq hk
    exact ex_bin_ok hs hN hsub hR (fun x y rest => ⟨_, rfl, fun hz W1 => lv_ishl x1 x2 hdg W1⟩)
  | ishr =>
    cases ex_beq hk
    exact ex_bin_ok hs hN hsub hR (fun x y rest => ⟨_, rfl, fun hz W1 => lv_ishr x1 x2 hdg W1⟩)
  | idiv =>
    cases ex_beq hk
    exact ex_bin_ok hs hN hsub hR (fun x y rest => ⟨_, rfl, fun hz W1 => lv_idiv x1 x2 hdg (hz (Or.inl rfl)) W1⟩)
  | irem =>
    cases ex_beq hk
    exact ex_bin_ok hs hN hsub hR (fun x y rest => ⟨_, rfl, fun hz W1 => lv_irem x1 x2 hdg (hz (Or.inr rfl)) W1⟩)
  | i2b =>
    cases ex_beq hk
    cases st with
    | nil => cases (show none = some o from hs)
    | cons v rest =>
      obtain ⟨g1, g2⟩ := ex_bifs (show (bif ex_isI v then ex_ft (pc, .i2b, 1, a1, a2, a3, ts) r en lv (ex_full :: rest) h n k1 k2 else none) = some o from hs)
      obtain ⟨x, xr, rfl, hvr, hr⟩ := ex_sr_cons hR.sr
      obtain ⟨y, rfl⟩ := ex_vr_int hvr g1
      exact lv_i2b x1 x2 hdg rfl (ex_ft_ok g2 hN.g hsub (hR.stk ⟨ex_full_ok _, hr⟩))
  | dup =>
    cases ex_beq hk
    cases st with
    | nil => cases (show none = some o from hs)
    | cons v rest =>
      obtain ⟨g1, g2⟩ := ex_bifs (show (bif Nat.beq (ex_cat v) 1 then ex_ft (pc, .dup, 1, a1, a2, a3, ts) r en lv (v :: v :: rest) h n k1 k2 else none) = some o from hs)
      obtain ⟨x, xr, rfl, hvr, hr⟩ := ex_sr_cons hR.sr
      exact lv_dup x1 x2 hdg ((ex_cat_ok hvr).trans (ex_beq g1)) (ex_ft_ok g2 hN.g hsub (hR.stk ⟨hvr, hvr, hr⟩))
  | dup2 =>
    cases ex_beq hk
    match st, hs, hR with
    | [], hs, hR => cases (show none = some o from hs)
    | [v], hs, hR => cases (show none = some o from hs)
    | v :: w :: rest, hs, hR =>
      obtain ⟨g1, g2⟩ := ex_bifs (show (bif Nat.beq (ex_cat v) 1 && Nat.beq (ex_cat w) 1 then ex_ft (pc, .dup2, 1, a1, a2, a3, ts) r en lv (v :: w :: v :: w :: rest) h n k1 k2 else none) = some o from hs)
      obtain ⟨g1, g3⟩ := ex_and g1
      obtain ⟨x, xr, rfl, hvr, hr⟩ := ex_sr_cons hR.sr
      obtain ⟨x', xr', rfl, hvr', hr'⟩ := ex_sr_cons hr
      exact lv_dup2_11 x1 x2 hdg ((ex_cat_ok hvr).trans (ex_beq g1)) ((ex_cat_ok hvr').trans (ex_beq g3)) (ex_ft_ok g2 hN.g hsub (hR.stk ⟨hvr, hvr', hvr, hvr', hr'⟩))
  | pop =>
    cases ex_beq hk
    cases st with
    | nil => cases (show none = some o from hs)
    | cons v rest =>
      obtain ⟨g1, g2⟩ := ex_bifs (show (bif Nat.beq (ex_cat v) 1 then ex_ft (pc, .pop, 1, a1, a2, a3, ts) r en lv rest h n k1 k2 else none) = some o from hs)
      obtain ⟨x, xr, rfl, hvr, hr⟩ := ex_sr_cons hR.sr
      exact lv_pop x1 x2 hdg ((ex_cat_ok hvr).trans (ex_beq g1)) (ex_ft_ok g2 hN.g hsub (hR.stk hr))
  | goto off =>
    obtain ⟨e1, e2⟩ := ex_and hk
    cases ex_beq e1
    have hs : some [(en, (ex_jp pr a1, lv, st, h, n, k1, k2))] = some o := hs
    cases hs
    exact lv_goto x1 x2 hdg (of_decide_eq_true e2) (ex_jp_ok (hN _ (List.mem_singleton.mpr rfl)) hR)
  | ifCond cn off =>
    obtain ⟨e1, e2⟩ := ex_and hk
    cases ex_beq e1
    cases st with
    | nil => cases (show none = some o from hs)
    | cons v rest =>
      have hs : ex_ifs pr (pc, .ifCond cn off, 3, a1, a2, a3, ts) r cn en lv v (ex_k 2147483648) rest h n k1 k2 = some o := hs
      have hI : ex_isI v = true := ex_ifs_isI hs
      obtain ⟨x, xr, rfl, hvr, hr⟩ := ex_sr_cons hR.sr
      obtain ⟨y, rfl⟩ := ex_vr_int hvr hI
      obtain ⟨kt, kf⟩ := ex_ifs_ok hs hN hsub (hR.stk hr) hvr (ex_k_ok (0 : Int32) ex_u_0)
      cases cn with
      | eq => exact lv_if_eq x1 x2 hdg (of_decide_eq_true e2) kt kf
      | ne => exact lv_if_ne x1 x2 hdg (of_decide_eq_true e2) kt (fun z => kf (fun w => w z))
      | lt => exact lv_if_lt x1 x2 hdg (of_decide_eq_true e2) kt kf
      | ge => exact lv_if_ge x1 x2 hdg (of_decide_eq_true e2) (fun z => kt (ex_nlt.mpr z)) (fun z => kf (fun w => z (ex_nlt.mp w)))
      | gt => exact lv_if_gt x1 x2 hdg (of_decide_eq_true e2) kt kf
      | le => exact lv_if_le x1 x2 hdg (of_decide_eq_true e2) (fun z => kt (ex_nlt.mpr z)) (fun z => kf (fun w => z (ex_nlt.mp w)))
  | if_icmp cn off =>
    obtain ⟨e1, e2⟩ := ex_and hk
    cases ex_beq e1
    match st, hs, hR with
    | [], hs, hR => cases (show none = some o from hs)
    | [v], hs, hR => cases (show none = some o from hs)
    | vb :: va :: rest, hs, hR =>
      have hs : ex_ifs pr (pc, .if_icmp cn off, 3, a1, a2, a3, ts) r cn en lv va vb rest h n k1 k2 = some o := hs
      have hI : ex_isI va = true := ex_ifs_isI hs
      have hJ : ex_isI vb = true := ex_ifs_isJ hs
      obtain ⟨x, xr, rfl, hvr, hr⟩ := ex_sr_cons hR.sr
      obtain ⟨x', xr', rfl, hvr', hr'⟩ := ex_sr_cons hr
      obtain ⟨y, rfl⟩ := ex_vr_int hvr hJ
      obtain ⟨y', rfl⟩ := ex_vr_int hvr' hI
      obtain ⟨kt, kf⟩ := ex_ifs_ok hs hN hsub (hR.stk hr') hvr' hvr
      cases cn with
      | eq => exact lv_icmp_eq x1 x2 hdg (of_decide_eq_true e2) kt kf
      | ne => exact lv_icmp_ne x1 x2 hdg (of_decide_eq_true e2) kt (fun z => kf (fun w => w z))
      | lt => exact lv_icmp_lt x1 x2 hdg (of_decide_eq_true e2) kt kf
      | ge => exact lv_icmp_ge x1 x2 hdg (of_decide_eq_true e2) (fun z => kt (ex_nlt.mpr z)) (fun z => kf (fun w => z (ex_nlt.mp w)))
      | gt => exact lv_icmp_gt x1 x2 hdg (of_decide_eq_true e2) kt kf
      | le => exact lv_icmp_le x1 x2 hdg (of_decide_eq_true e2) (fun z => kt (ex_nlt.mpr z)) (fun z => kf (fun w => z (ex_nlt.mp w)))
  | tableswitch df' lo hi offs =>
    obtain ⟨e1, e4⟩ := ex_and hk
    obtain ⟨e1, e3⟩ := ex_and e1
    obtain ⟨e1, e2⟩ := ex_and e1
    have e1 := of_decide_eq_true e1
    have e2 := of_decide_eq_true e2
    have e3 := of_decide_eq_true e3
    have e4 := of_decide_eq_true e4
    cases st with
    | nil => cases (show none = some o from hs)
    | cons v rest =>
      obtain ⟨hI, g2⟩ := ex_bifs (show (bif ex_isI v then some (ex_app (ex_map (fun e => (e, (ex_jp pr a1, lv, rest, h, n, k1, k2))) (ex_1 en v 0 (a2 - 1))) (ex_sw pr (pc, .tableswitch df' lo hi offs, len, a1, a2, a3, ts) en lv v rest h n k1 k2 ts a2)) else none) = some o from hs)
      injection g2 with g2
      subst g2
      rw [ex_app_eq, ex_map_eq] at hN
      obtain ⟨x, xr, rfl, hvr, hr⟩ := ex_sr_cons hR.sr
      obtain ⟨y, rfl⟩ := ex_vr_int hvr hI
      obtain ⟨s1, s2⟩ := ex_sw_ok (pr := pr) (q := (pc, .tableswitch df' lo hi offs, len, a1, a2, a3, ts)) hvr (hR.stk hr) ts a2 (fun z hz => hN z (List.mem_append_right _ hz))
      have hy := ex_u_int y
      by_cases c1 : y.toInt < lo
      · refine lv_tableOut x1 x2 hdg (Or.inl c1) e1 ?_
        obtain ⟨e', i1, i2⟩ := ex_1_ok hR.er hvr (Nat.zero_le _) (show ex_u y ≤ a2 - 1 by omega)
        exact ex_jp_ok (hN (e', _) (List.mem_append_left _ (List.mem_map.mpr ⟨e', i1, rfl⟩))) ((hR.stk hr).env i2)
      · by_cases c2 : hi < y.toInt
        · exact lv_tableOut x1 x2 hdg (Or.inr c2) e1 (s2 (by omega))
        · have hj : (y.toInt - lo).toNat < ts.length := by omega
          obtain ⟨t, ht⟩ : ∃ t, ts[(y.toInt - lo).toNat]? = some t := ⟨_, List.getElem?_eq_getElem hj⟩
          have h9 : (offs.toList.map (fun z => (pc : Int) + z))[(y.toInt - lo).toNat]? = some (t : Int) := by rw [e4, List.getElem?_map, ht]; rfl
          rw [List.getElem?_map] at h9
          obtain ⟨off, ho, ho2⟩ := Option.map_eq_some_iff.mp h9
          exact lv_tableIn x1 x2 hdg c1 c2 (by rw [← Array.getElem?_toList]; exact ho) ho2 (s1 _ _ ht (by omega))
  | getfield ix =>
    obtain ⟨e1, e2⟩ := ex_and hk
    cases ex_beq e1
    split at e2
    · rename_i rc wi hc
      obtain ⟨e2, e3⟩ := ex_and e2
      exact ex_gf_ok (q := (pc, .getfield ix, 3, a1, a2, a3, [wi])) hc (ex_blt e2) (ex_wd_ok e3) X rfl hdg hs hN hsub hR
    · cases e2
  | putfield ix =>
    obtain ⟨e1, e2⟩ := ex_and hk
    cases ex_beq e1
    split at e2
    · rename_i rc wi hc
      obtain ⟨e2, e5⟩ := ex_and e2
      obtain ⟨e2, e4⟩ := ex_and e2
      obtain ⟨e2, e3⟩ := ex_and e2
      have hfin : (rc.2.1 a2).2.2.2 = false ∨ (nm = "<init>" ∧ (rc.2.1 a2).1 = own) := by
        cases hf : (rc.2.1 a2).2.2.2 with
        | false => exact Or.inl rfl
        | true =>
          rw [hf] at e4
          obtain ⟨z1, z2⟩ := ex_and (show (decide (nm = "<init>") && decide ((rc.2.1 a2).1 = own)) = true from e4)
          exact Or.inr ⟨of_decide_eq_true z1, of_decide_eq_true z2⟩
      exact ex_pf_ok (q := (pc, .putfield ix, 3, a1, a2, a3, [wi])) hc (ex_blt e2) (ex_wd_ok e3) hfin e5 X rfl hdg hs hN hsub hR
    · cases e2
  | new ix =>
    obtain ⟨e1, e2⟩ := ex_and hk
    cases ex_beq e1
    split at e2
    · rename_i rc wi hc
      obtain ⟨e2, e3⟩ := ex_and e2
      obtain ⟨w1, w2⟩ := hgw.2.2.2 a1 rc hc
      exact ex_nw_ok (q := (pc, .new ix, 3, a1, a2, a3, [wi])) (hgd a1 rc hc) hc (ex_beq e2) (ex_wd_ok e3) w1 w2 X rfl hdg hs hN hsub hR
    · cases e2
  | newarray at_ =>
    obtain ⟨e1, e3⟩ := ex_and hk
    obtain ⟨e1, e2⟩ := ex_and e1
    cases ex_beq e1
    exact ex_na_ok (q := (pc, .newarray at_, 2, a1, a2, a3, ts)) ⟨of_decide_eq_true e2, ex_ble e3⟩ (hgw.1 a1 (ex_ble e3)) X rfl hdg hs hN hsub hR
  | anewarray ix =>
    obtain ⟨e1, e3⟩ := ex_and hk
    obtain ⟨e1, e2⟩ := ex_and e1
    cases ex_beq e1
    split at e3
    · exact ex_nq_ok (q := (pc, .anewarray ix, 3, a1, a2, a3, _)) (ex_beq e2) (ex_wd_ok e3) X rfl hdg hs hN hsub hR
    · cases e3
  | arraylength =>
    cases ex_beq hk
    exact ex_al_ok (q := (pc, .arraylength, 1, a1, a2, a3, ts)) X rfl hdg hs hN hsub hR
  | iaload =>
    cases ex_beq hk
    refine ex_ald_ok (q := (pc, .iaload, 1, a1, a2, a3, ts)) (isl := isl) (il := isl) (fun z => z) hs hN hsub hR (fun t ob a N j tk cA ar y xr ok f1 ht f3 f4 f5 hin hj W1 => ?_) (fun j y xr hil hin hj W1 => ?_)
    · have ht0 := ex_beq ok
      subst ht0
      obtain ⟨N0, arv⟩ := ar
      cases f4
      obtain ⟨f, rfl⟩ : ∃ f, arv = .inl f := f5
      subst hj
      exact va_iald x1 x2 hR.hK hR.hP ob tk f1 ht hin hdg W1
    · obtain ⟨hX, hbl, hbA⟩ := x9 hil
      subst hj
      exact va_sld x1 x2 hX hbl hbA hR.hS hin hdg W1
  | baload =>
    cases ex_beq hk
    refine ex_ald_ok (q := (pc, .baload, 1, a1, a2, a3, ts)) (isl := isl) (il := false) (fun z => by cases z) hs hN hsub hR (fun t ob a N j tk cA ar y xr ok f1 ht f3 f4 f5 hin hj W1 => ?_) (fun j y xr hil hin hj W1 => by cases hil)
    obtain ⟨N0, arv⟩ := ar
    cases f4
    subst hj
    rcases Bool.or_eq_true _ _ |>.mp ok with ok | ok
    · have ht0 := ex_beq ok
      subst ht0
      obtain ⟨f, rfl⟩ : ∃ f, arv = .inl f := f5
      exact va_bald x1 x2 hR.hK hR.hP ob tk f1 ht hin hdg W1
    · have ht0 := ex_beq ok
      subst ht0
      obtain ⟨f, rfl⟩ : ∃ f, arv = .inl f := f5
      exact va_zald x1 x2 hR.hK hR.hP ob tk f1 ht hin hdg W1
  | aaload =>
    cases ex_beq hk
    refine ex_ald_ok (q := (pc, .aaload, 1, a1, a2, a3, ts)) (isl := isl) (il := false) (fun z => by cases z) hs hN hsub hR (fun t ob a N j tk cA ar y xr ok f1 ht f3 f4 f5 hin hj W1 => ?_) (fun j y xr hil hin hj W1 => by cases hil)
    obtain ⟨N0, arv⟩ := ar
    cases f4
    subst hj
    have ht0 := ex_beq ok
    subst ht0
    obtain ⟨f, rfl⟩ : ∃ f, arv = .inr (.inr (.inr (.inr f))) := f5
    exact va_aldq x1 x2 hR.hK hR.hP ob tk f1 ht hin hdg W1
  | iastore =>
    cases ex_beq hk
    refine ex_ast_ok (q := (pc, .iastore, 1, a1, a2, a3, ts)) hs hN hsub hR (fun t ob a N j tk cA ar y v v' x xr ok hv f1 ht f3 f4 f5 hin hj => ?_)
    obtain ⟨g1, g2⟩ := ex_bifs (show (bif Nat.beq t 0 && ex_isI v then some v else none) = some v' from ok)
    cases g2
    obtain ⟨g1, g3⟩ := ex_and g1
    have ht0 := ex_beq g1
    subst ht0
    obtain ⟨z, rfl⟩ := ex_vr_int hv g3
    obtain ⟨N0, arv⟩ := ar
    cases f4
    subst hj
    obtain ⟨f, rfl⟩ : ∃ f, arv = .inl f := f5
    exact ⟨(N0, .inl (upd f y.toNatClampNeg z)), rfl, ⟨_, rfl⟩, fun i _ hi => by show Value.int (upd f y.toNatClampNeg z i) = .int (f i); rw [pk_un hi], fun ws' hx => by show ex_vr ρ b ws' v (.int (upd f y.toNatClampNeg z y.toNatClampNeg)); rw [pk_us]; exact hv.mono hx, fun W1 => va_iast x1 x2 hR.hK hR.hP hR.hD hR.hS ob tk f1 ht hin hdg W1⟩
  | bastore =>
    cases ex_beq hk
    refine ex_ast_ok (q := (pc, .bastore, 1, a1, a2, a3, ts)) hs hN hsub hR (fun t ob a N j tk cA ar y v v' x xr ok hv f1 ht f3 f4 f5 hin hj => ?_)
    obtain ⟨N0, arv⟩ := ar
    cases f4
    subst hj
    rcases ex_bif (P := fun z => z = some v') (show (bif Nat.beq t 1 && ex_isI v then some ex_full else bif Nat.beq t 3 then (match ex_cst en v with
      | some u => bif Nat.beq u 2147483648 || Nat.beq u 2147483649 then some (ex_k u) else none
      | none => none) else none) = some v' from ok) with ⟨g1, g2⟩ | ⟨g1, g2⟩
    · cases g2
      obtain ⟨g1, g3⟩ := ex_and g1
      have ht0 := ex_beq g1
      subst ht0
      obtain ⟨z, rfl⟩ := ex_vr_int hv g3
      obtain ⟨f, rfl⟩ : ∃ f, arv = .inl f := f5
      exact ⟨(N0, .inl (upd f y.toNatClampNeg (vp_nar .byte z))), rfl, ⟨_, rfl⟩, fun i _ hi => by show Value.int (upd f y.toNatClampNeg _ i) = .int (f i); rw [pk_un hi], fun ws' hx => by show ex_vr ρ b ws' ex_full (.int (upd f y.toNatClampNeg _ y.toNatClampNeg)); exact ex_full_ok _, fun W1 => va_bast x1 x2 hR.hK hR.hP hR.hD hR.hS ob tk f1 ht hin hdg W1⟩
    · obtain ⟨g1, g2⟩ := ex_bifs g2
      have ht0 := ex_beq g1
      subst ht0
      split at g2
      · rename_i u hu
        obtain ⟨g3, g4⟩ := ex_bifs (show (bif Nat.beq u 2147483648 || Nat.beq u 2147483649 then some (ex_k u) else none) = some v' from g2)
        injection g4 with g4
        subst g4
        obtain ⟨z, rfl⟩ := ex_vr_int hv (ex_cst_isI hu)
        have e4 := ex_cst_ok hR.er hu hv
        have hz : z = 0 ∨ z = 1 := by
          rcases Bool.or_eq_true _ _ |>.mp g3 with h1 | h1
          · exact Or.inl (ex_u_inj (by rw [e4, ex_beq h1, ex_u_0]))
          · exact Or.inr (ex_u_inj (by rw [e4, ex_beq h1]; decide))
        have hnar : vp_nar .boolean z = z := by rcases hz with rfl | rfl <;> decide
        obtain ⟨f, rfl⟩ : ∃ f, arv = .inl f := f5
        exact ⟨(N0, .inl (upd f y.toNatClampNeg (vp_nar .boolean z))), rfl, ⟨_, rfl⟩, fun i _ hi => by show Value.int (upd f y.toNatClampNeg _ i) = .int (f i); rw [pk_un hi], fun ws' hx => by show ex_vr ρ b ws' (ex_k u) (.int (upd f y.toNatClampNeg _ y.toNatClampNeg)); rw [pk_us, hnar]; exact ex_k_ok _ e4, fun W1 => va_zast x1 x2 hR.hK hR.hP hR.hD hR.hS ob tk f1 ht hin hdg W1⟩
      · cases g2
  | lastore =>
    cases ex_beq hk
    refine ex_ast_ok (q := (pc, .lastore, 1, a1, a2, a3, ts)) hs hN hsub hR (fun t ob a N j tk cA ar y v v' x xr ok hv f1 ht f3 f4 f5 hin hj => ?_)
    rcases v with w | w | z | w
    · cases (show none = some v' from ok)
    · cases (show none = some v' from ok)
    · obtain ⟨g1, g2⟩ := ex_bifs (show (bif Nat.beq t 2 then some (ex_j z) else none) = some v' from ok)
      cases g2
      have ht0 := ex_beq g1
      subst ht0
      have hv : x = .long z := hv
      subst hv
      obtain ⟨N0, arv⟩ := ar
      cases f4
      subst hj
      obtain ⟨f, rfl⟩ : ∃ f, arv = .inr (.inl f) := f5
      exact ⟨(N0, .inr (.inl (vp_updL f y.toNatClampNeg z))), rfl, ⟨_, rfl⟩, fun i _ hi => by show Value.long (vp_updL f y.toNatClampNeg z i) = .long (f i); rw [pk_uLn hi], fun ws' hx => by show Value.long (vp_updL f y.toNatClampNeg z y.toNatClampNeg) = .long z; rw [pk_uLs], fun W1 => va_last x1 x2 hR.hK hR.hP hR.hD hR.hS ob tk f1 ht hin hdg W1⟩
    · cases (show none = some v' from ok)
  | aastore =>
    cases ex_beq hk
    refine ex_ast_ok (q := (pc, .aastore, 1, a1, a2, a3, ts)) hs hN hsub hR (fun t ob a N j tk cA ar y v v' x xr ok hv f1 ht f3 f4 f5 hin hj => ?_)
    rcases v with w | (_ | w) | z | w
    · cases (show none = some v' from ok)
    · cases (show none = some v' from ok)
    · have ok : (match ex_get h w with
        | some (.inl (ci, _)) => bif Nat.beq t 4 && Nat.beq ci 4 then some (ex_a (some w)) else none
        | _ => none) = some v' := ok
      split at ok
      · rename_i ci fs hget
        obtain ⟨g1, g2⟩ := ex_bifs ok
        cases g2
        obtain ⟨g1, g3⟩ := ex_and g1
        have ht0 := ex_beq g1
        subst ht0
        have hc4 := ex_beq g3
        subst hc4
        obtain ⟨a', vs, w1, w2, w3⟩ := hR.hr.obj hget
        obtain ⟨a2', ev, w4, rfl⟩ := hv
        have ea := ex_at w4 w1
        subst ea
        obtain ⟨N0, arv⟩ := ar
        cases f4
        subst hj
        obtain ⟨f, rfl⟩ : ∃ f, arv = .inr (.inr (.inr (.inr f))) := f5
        exact ⟨(N0, .inr (.inr (.inr (.inr (va_up f y.toNatClampNeg (some a2')))))), rfl, ⟨_, rfl⟩, fun i _ hi => by show va_rf (va_up f y.toNatClampNeg (some a2') i) = va_rf (f i); rw [va_up_ne _ _ hi], fun ws' hx => by show ex_vr ρ b ws' (ex_a (some w)) (va_rf (va_up f y.toNatClampNeg (some a2') y.toNatClampNeg)); rw [va_up_self]; exact (show ex_vr ρ b ws (ex_a (some w)) (.ref a2') from ⟨a2', _, w1, rfl⟩).mono hx, fun W1 => va_astq (r := (RX4, TX4, 13)) x1 x2 hR.hK hR.hP hR.hD hR.hS ob tk w 4 f1 ht w1 rfl hin hdg W1⟩
      · cases ok
    · cases (show none = some v' from ok)
    · cases (show none = some v' from ok)
  | invokestatic ix =>
    obtain ⟨e1, e3⟩ := ex_and hk
    cases ex_beq e1
    split at e3
    · exact ex_acp_ok (q := (pc, .invokestatic ix, 3, a1, a2, a3, _)) (ex_wd_ok e3) hgw.2.1.1 hgw.2.1.2.1 hgw.2.1.2.2 X rfl hdg hs hN hsub hR
    · cases e3
  | invokespecial ix =>
    obtain ⟨e1, e3⟩ := ex_and hk
    cases ex_beq e1
    split at e3
    · rename_i wi
      match st, hs, hR with
      | [], hs, hR => cases (show none = some o from hs)
      | .inl _ :: _, hs, hR => cases (show none = some o from hs)
      | .inr (.inl none) :: _, hs, hR => cases (show none = some o from hs)
      | .inr (.inr _) :: _, hs, hR => cases (show none = some o from hs)
      | .inr (.inl (some w)) :: rest, hs, hR =>
        obtain ⟨g1, g2⟩ := ex_bifs (show (bif Nat.ble (ex_len rest) 4 then ex_ft (pc, .invokespecial ix, 3, a1, a2, a3, [wi]) r en lv rest h n k1 k2 else none) = some o from hs)
        have g1 := ex_ble g1
        rw [ex_len_eq] at g1
        obtain ⟨x, xr, rfl, hvr, hr⟩ := ex_sr_cons hR.sr
        obtain ⟨a, ev, w1, rfl⟩ := hvr
        obtain ⟨lw, hl1, hl2⟩ := hR.1
        have hsum := ex_sum_le hr
        refine W.objInit x1 x2 x4 (x5 _ (ex_wd_ok e3)) (x5 _ hgw.2.2.1.1) (x5 _ hgw.2.2.1.2) rfl (by rw [x3]; exact hl1.1) rfl hdg (by omega) (by
          show 2 * (F0 m pc ls (.ref a :: xr)).monitorRoom + (xr.map fun v => v.category).sum + 12 ≤ R.locals
          have := lv_room (m := m) (pc := pc) (ls := ls) (rest := .ref a :: xr) (st := xr) (by omega)
          omega) ?_
        exact ex_ft_ok g2 hN.g hsub (hR.stk hr)
    · cases e3
  | lookupswitch df' ps =>
    obtain ⟨e1, e2⟩ := ex_and hk
    have e1 := of_decide_eq_true e1
    split at e2
    · rename_i c0 u0 c1 u1
      split at e2
      · rename_i p0 p1 hps
        obtain ⟨e2, e7⟩ := ex_and e2
        obtain ⟨e2, e6⟩ := ex_and e2
        obtain ⟨e2, e5⟩ := ex_and e2
        obtain ⟨e3, e4⟩ := ex_and e2
        have e3 := of_decide_eq_true e3
        have e4 := of_decide_eq_true e4
        have e5 := of_decide_eq_true e5
        have e6 := of_decide_eq_true e6
        have e7 := of_decide_eq_true e7
        have hp : (ps.toList.zip (ps.toList.drop 1)).all (fun (a, next) => a.1 < next.1) = true := by
          rw [hps]
          simp [e7]
        cases st with
        | nil => cases (show none = some o from hs)
        | cons v rest =>
          obtain ⟨hI, g2⟩ := ex_bifs (show (bif ex_isI v then ex_lu pr (pc, .lookupswitch df' ps, len, a1, a2, a3, [c0, u0, c1, u1]) lv v rest h n k1 k2 [c0, u0, c1, u1] en else none) = some o from hs)
          unfold ex_lu at g2
          dsimp only at g2
          split at g2
          · rename_i qa hqa
            injection g2 with g2
            subst g2
            rw [ex_app_eq, ex_app_eq, ex_map_eq, ex_map_eq] at hN
            obtain ⟨x, xr, rfl, hvr, hr⟩ := ex_sr_cons hR.sr
            obtain ⟨y, rfl⟩ := ex_vr_int hvr hI
            have hy := ex_u_int y
            have ly := ex_u_lt y
            obtain ⟨p01, p02⟩ := p0
            obtain ⟨p11, p12⟩ := p1
            dsimp only at e3 e4 e5 e6 e7
            by_cases q0 : p01 = y.toInt
            · refine lv_lookup x1 x2 hdg hp (by rw [hps, Op.lookupswitch.offset_cons, if_pos q0]) e5 ?_
              obtain ⟨e', i1, i2⟩ := ex_1_ok hR.er hvr (show c0 ≤ ex_u y by omega) (show ex_u y ≤ c0 by omega)
              exact ex_jp_ok (hN (e', _) (List.mem_append_left _ (List.mem_map.mpr ⟨e', i1, rfl⟩))) ((hR.stk hr).env i2)
            · by_cases q1 : p11 = y.toInt
              · refine lv_lookup x1 x2 hdg hp (by rw [hps, Op.lookupswitch.offset_cons, if_neg q0, Op.lookupswitch.offset_cons, if_pos q1]) e6 ?_
                obtain ⟨e', i1, i2⟩ := ex_1_ok hR.er hvr (show c1 ≤ ex_u y by omega) (show ex_u y ≤ c1 by omega)
                exact ex_jp_ok (hN (e', _) (List.mem_append_right _ (List.mem_append_left _ (List.mem_map.mpr ⟨e', i1, rfl⟩)))) ((hR.stk hr).env i2)
              · refine lv_lookup x1 x2 hdg hp (by rw [hps, Op.lookupswitch.offset_cons, if_neg q0, Op.lookupswitch.offset_cons, if_neg q1]; rfl) e1 ?_
                cases hb : Nat.beq (c0 + 1) c1 with
                | false =>
                  rw [hb] at hN
                  exact ex_jp_ok (hN (en, (ex_jp pr a1, lv, rest, h, n, k1, k2)) (List.mem_append_right _ (List.mem_append_right _ (show (en, (ex_jp pr a1, lv, rest, h, n, k1, k2)) ∈ [(en, (ex_jp pr a1, lv, rest, h, n, k1, k2))] from List.mem_singleton.mpr rfl)))) (hR.stk hr)
                | true =>
                  have hb2 := ex_beq hb
                  rw [hb] at hN
                  rcases Nat.lt_or_ge (ex_u y) c0 with z | z
                  · obtain ⟨e', i1, i2⟩ := ex_1_ok hR.er hvr (Nat.zero_le _) (show ex_u y ≤ c0 - 1 by omega)
                    exact ex_jp_ok (hN (e', _) (List.mem_append_right _ (List.mem_append_right _ (by show _ ∈ ex_app (ex_map _ _) (ex_map _ _); rw [ex_app_eq, ex_map_eq, ex_map_eq]; exact List.mem_append_left _ (List.mem_map.mpr ⟨e', i1, rfl⟩))))) ((hR.stk hr).env i2)
                  · obtain ⟨e', i1, i2⟩ := ex_1_ok hR.er hvr (show c1 + 1 ≤ ex_u y by omega) (show ex_u y ≤ 4294967295 by omega)
                    exact ex_jp_ok (hN (e', _) (List.mem_append_right _ (List.mem_append_right _ (by show _ ∈ ex_app (ex_map _ _) (ex_map _ _); rw [ex_app_eq, ex_map_eq, ex_map_eq]; exact List.mem_append_right _ (List.mem_map.mpr ⟨e', i1, rfl⟩))))) ((hR.stk hr).env i2)
          · cases g2
      · cases e2
    · cases e2
  | _ => exact absurd (show false = true from hk) (by decide)
end EXT
