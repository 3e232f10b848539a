abbrev ex_I : Type := MethodName × ByteArray × Option FieldType × Nat × Nat
noncomputable def ex_ck (mi : Nat → Option ex_I) (own : String) (q : ex_P) : Bool := match q with
  | (_, ins, len, a1, a2, a3, ts) => Nat.beq len 3 && (match mi a1, ts with
    | some I, [wi, ne] => (match ins with
      | .invokevirtual ix => ex_wd wi (Cond.methodLink own ix I.1) && Nat.beq I.2.2.2.1 0 && Nat.beq a2 (I.2.2.2.2 + 1) && (match vwCl[a3]? with
        | some rc => decide (rc.1 = I.1.cls)
        | none => false)
      | .invokestatic ix => ex_wd wi (Cond.methodLink own ix I.1) && Nat.beq I.2.2.2.1 1 && Nat.beq a2 I.2.2.2.2
      | .invokespecial ix => Nat.beq I.2.2.2.1 2 && Nat.beq a2 (I.2.2.2.2 + 1) && (bif Nat.beq ne 0 then ex_wd wi (Cond.methodLink own ix I.1) else decide (Cond.methodLinkNest own ix I.1 "HatchLights" ∈ ex_nest))
      | _ => false)
    | _, _ => false)
def ex_ek (z : Nat) (ret : Option FieldType) (q : ex_P) : Bool := match q.2.1, ret with
  | .ireturn, some .int => Nat.beq q.2.2.1 1
  | .ireturn, some .boolean => Nat.beq q.2.2.1 1 && Nat.beq z 1
  | .areturn, some (.object _) => Nat.beq q.2.2.1 1
  | .return_, none => Nat.beq q.2.2.1 1
  | _, _ => false
noncomputable def ex_qk (mi : Nat → Option ex_I) (own nm : String) (z : Nat) (ret : Option FieldType) (q : ex_P) : Bool := bif ex_end q then ex_ek z ret q else bif ex_call q then ex_ck mi own q else ex_pk own nm q
def ex_PO (mi : Nat → Option ex_I) (own nm : String) (cd : ByteArray) (z : Nat) (ret : Option FieldType) (pr : List ex_P) : Prop := ∀ q ∈ pr, decode cd q.1 = .ok (q.2.1, q.2.2.1) ∧ ex_qk mi own nm z ret q = true
def ex_MO (mi : Nat → Option ex_I) (M : ex_M) (I : ex_I) : Prop := plainName I.1.cls = true ∧ Cond.code I.1 I.2.1 M.2.1 I.2.2.1 ∈ ex_tb ∧ M.2.1 ≤ 40 ∧ Cond.initialized I.1.cls ∈ ex_tb ∧ (I.1.cls ≠ "java/lang/invoke/MethodHandle" ∧ I.1.cls ≠ "java/lang/invoke/VarHandle" ∧ (parseMethodDescriptor I.1.desc).map (fun d => d.parameters.length) = some I.2.2.2.2) ∧ ((I.2.2.2.1 = 0 → Cond.instanceMethod I.1 ∈ ex_tb ∧ Cond.selects I.1.cls I.1 I.1 ∈ ex_tb) ∧ (I.2.2.2.1 = 1 → Cond.static I.1 ∈ ex_tb) ∧ (I.2.2.2.1 = 2 → I.1.name = "<init>" ∧ Cond.instanceMethod I.1 ∈ ex_tb ∧ I.2.2.1 = none)) ∧ (I.2.2.2.2 + 1 ≤ M.2.1 ∨ (I.2.2.2.1 = 1 ∧ I.2.2.2.2 ≤ M.2.1)) ∧ (∃ q r, M.1 = q :: r ∧ q.1 = 0) ∧ ex_PO mi I.1.cls I.1.name I.2.1 M.2.2.1 I.2.2.1 M.1
def ex_Snd (mt : Nat → Option ex_M) (mi : Nat → Option ex_I) (df : Nat → List ex_V) (L : Nat) (l : Launch) (f : Nat) : Prop := ∀ (stop d : Nat) (isl : Bool) (M : ex_M) (en : ex_E) (S : ex_S) (o : List (ex_E × ex_S)), ex_run mt df L f stop d isl M en S = some o → ∀ (own nm : String) (cd : ByteArray) (ret : Option FieldType), ex_PO mi own nm cd M.2.2.1 ret M.1 → ∀ (p : Program) (e : Env) (R : Room) (s : State) (m : MethodId) (args : Array Value) (below : List Frame) (meth : Method) (c : Code) (Q : State → Prop) (D : va_G) (ρ : Nat → Int32) (b : Nat) (A : Nat → Prop) (w0 : va_W) (t0 : List (ClassId × FieldType)), ex_X p R s m args meth c ρ b L A own nm cd M.2.1 d (M.2.2.2.1, M.2.2.2.2) isl → (∀ x ∈ o, ex_G p l e R s m args below meth c Q D ρ b A M.2.1 w0 t0 M.1 x.1 x.2) → S.1 ≠ [] ∧ ex_G p l e R s m args below meth c Q D ρ b A M.2.1 w0 t0 M.1 en S
def ex_Pc (D : va_G) (ws : va_W) (tys : List (ClassId × FieldType)) (sz : Nat) (U : State) : Prop := U.heap.size = sz ∧ va_P D vwCl ws U.heap ∧ va_K D vwCl tys U ∧ va_D (fun _ => True) ws ∧ (∀ w ∈ ex_nest, va_Nw w U) ∧ va_AO "HatchLights$Scene" U
def ex_Qc (D : va_G) (ρ : Nat → Int32) (b : Nat) (ws : va_W) (tys : List (ClassId × FieldType)) (sz : Nat) (outs : List ex_A) : Array Value → State → Outcome → State → Prop := fun _ st oc t => (∃ a ∈ outs, ∃ (vo : Option Value) (ws' : va_W) (tys' : List (ClassId × FieldType)), oc = .returned vo ∧ ex_er ρ a.1 ∧ ex_sr ρ b ws' a.2.1 vo.toList ∧ ex_hr ρ b tys' ws' a.2.2.1 a.2.2.2 ∧ va_P D vwCl ws' t.heap ∧ va_K D vwCl tys' t ∧ va_D (va_A ws sz) ws' ∧ ex_xt ws ws' ∧ ∀ x ∈ tys, x ∈ tys') ∧ va_F (va_A ws sz) st t
theorem ex_zok_ok {ρ : Nat → Int32} {b : Nat} {ws : va_W} {en : ex_E} {z : Nat} {v : ex_V} {y : Int32} (he : ex_er ρ en) (hz : z = 1) (hk : ex_zok en z v = true) (hv : ex_vr ρ b ws v (.int y)) : narrow .boolean (.int y) = .int y := by
  subst hz
  have hk : (match ex_cst en v with
    | some u => Nat.beq u 2147483648 || Nat.beq u 2147483649
    | none => false) = true := hk
  split at hk
  · rename_i u hu
    have e1 := ex_cst_ok he hu hv
    have hy : y = 0 ∨ y = 1 := by
      rcases Bool.or_eq_true _ _ |>.mp hk with h1 | h1
      · exact Or.inl (ex_u_inj (by rw [e1, ex_beq h1, ex_u_0]))
      · exact Or.inr (ex_u_inj (by rw [e1, ex_beq h1]; decide))
    rcases hy with rfl | rfl <;> rfl
  · cases hk
set_option maxHeartbeats 4000000 in
theorem ex_met {mt : Nat → Option ex_M} {mi : Nat → Option ex_I} {df : Nat → List ex_V} {L : Nat} {l : Launch} {f : Nat} (hs : ex_Snd mt mi df L l f) {M : ex_M} {I : ex_I} (hMO : ex_MO mi M I) {d : Nat} {en : ex_E} {as : List ex_V} {h : ex_H} {n : Nat} {outs : List (ex_E × ex_S)} {l1 : List ex_A} (hr : ex_run mt df L f 1000000 d false M en (M.1, ex_args as 0, [], h, n, 0, 0) = some outs) (hrt : ex_rets M.2.2.1 M.2.2.2.1 M.2.2.2.2 outs = some l1)
    {ρ : Nat → Int32} {b : Nat} {D : va_G} {ws : va_W} {tys : List (ClassId × FieldType)} {va : List Value} {sz : Nat} (he : ex_er ρ en) (ha : ex_sr ρ b ws as va) (hc : ∀ v ∈ as, ex_cat v = 1) (hlen : va.length ≤ M.2.1) (hh : ex_hr ρ b tys ws h n) :
    Met l I.1 (Cond.code I.1 I.2.1 M.2.1 I.2.2.1 :: ex_tb) { frames := d + 1, cells := M.2.2.2.1, slots := M.2.2.2.2, locals := 60 * (d + 1) } (va_Pc va (ex_Pc D ws tys sz)) (ex_Qc D ρ b ws tys sz l1) M.2.2.2.1 M.2.2.2.2 (va_A ws sz) := by
  obtain ⟨m1, m2, m3, m4, m5, m6, m7, m8, m9⟩ := hMO
  refine Met.ofW (cc := I.2.1) (maxL := M.2.1) (ret := I.2.2.1) m1 rfl ?_
  intro p e s m args below meth c s₁ B hml hv
  obtain ⟨rfl, hsz, hP, hK, hD0, hNw, hAO⟩ := hv
  subst hsz
  have hts := atoms_spec (ws := Cond.code I.1 I.2.1 M.2.1 I.2.2.1 :: ex_tb) B.pre
  have X : ex_X p (headSpec (Cond.code I.1 I.2.1 M.2.1 I.2.2.1 :: ex_tb) { frames := d + 1, cells := M.2.2.2.1, slots := M.2.2.2.2, locals := 60 * (d + 1) }).room s m va.toArray meth c ρ b L (va_A ws s.heap.size) I.1.cls I.1.name I.2.1 M.2.1 d (M.2.2.2.1, M.2.2.2.2) false := ⟨B.exec, B.bytes, hml, findClass_of_methodNamed B.named, fun w hw => hts w (List.mem_cons_of_mem _ hw), fun q hq => Or.inr hq, hNw, hAO, (fun z => by cases z), (name_of_methodNamed B.named B.method).1, ⟨Nat.le_refl _, Nat.le_refl _⟩, Nat.le_refl _, Nat.le_refl _⟩
  have hG := (hs _ _ _ M en _ outs hr I.1.cls I.1.name I.2.1 I.2.2.1 m9 p e _ s m va.toArray below meth c (MQ below (ex_Qc D ρ b ws tys s.heap.size l1) va.toArray s M.2.2.2.1 M.2.2.2.2 (va_A ws s.heap.size)) D ρ b (va_A ws s.heap.size) ws tys X (fun x hx => by
    obtain ⟨a, ha', hra0⟩ := ex_rets_ok hrt x hx
    intro pc ls xs ws' tys' H locs hh0 hsub hR
    obtain ⟨q, r, e0, e1⟩ := hh0
    obtain ⟨e', sx, lv, st, h', n', c', s'⟩ := x
    have e0 : sx = q :: r := e0
    subst e0
    subst e1
    have hra : (bif Nat.ble c' M.2.2.2.1 && Nat.ble s' M.2.2.2.2 then (match q.2.1, st with
      | .ireturn, [v] => bif ex_isI v && ex_zok e' M.2.2.1 v then some ((e', [v], h', n') : ex_A) else none
      | .areturn, [v] => bif ex_isR v then some (e', [v], h', n') else none
      | .return_, [] => some (e', [], h', n')
      | _, _ => none) else none) = some a := hra0
    clear hra0
    obtain ⟨g0, g2⟩ := ex_bifs hra
    clear hra
    obtain ⟨g1, g3⟩ := ex_and g0
    clear g0
    refine W.widen (ex_ble g1) (ex_ble g3) ?_
    obtain ⟨hdq, hqk⟩ := m9 q (hsub q List.mem_cons_self)
    obtain ⟨pc, ins, len, a1, a2, a3, ts⟩ := q
    have hx10 := hR.2.2.2.2.2.2.2.2.1
    have hx11 := hR.2.2.2.2.2.2.2.2.2
    split at g2
    · rename_i v hins
      have hins : ins = .ireturn := hins
      subst hins
      obtain ⟨g4, g5⟩ := ex_bifs g2
      obtain ⟨g4, g6⟩ := ex_and g4
      injection g5 with g5
      subst g5
      obtain ⟨x, xr, rfl, hv, hr'⟩ := ex_sr_cons hR.sr
      obtain ⟨y, rfl⟩ := ex_vr_int hv g4
      have hxr := ex_sr_nil hr'
      subst hxr
      have hek : ex_ek M.2.2.1 I.2.2.1 (pc, .ireturn, len, a1, a2, a3, ts) = true := hqk
      have fin : ∀ ty : FieldType, I.2.2.1 = some ty → narrow ty (.int y) = .int y → len = 1 → W p l e (headSpec (Cond.code I.1 I.2.1 M.2.1 I.2.2.1 :: ex_tb) { frames := d + 1, cells := M.2.2.2.1, slots := M.2.2.2.2, locals := 60 * (d + 1) }).room s m va.toArray below meth c H locs M.2.2.2.1 M.2.2.2.2 (MQ below (ex_Qc D ρ b ws tys s.heap.size l1) va.toArray s M.2.2.2.1 M.2.2.2.2 (va_A ws s.heap.size)) (F0 m pc ls [.int y]) := fun ty hty hnar hl => by
        subst hl
        exact W.zret (ty := ty) B.exec B.bytes (B.returns.trans hty) hnar (fun t ht hW => ⟨⟨_, ha', some (.int y), ws', tys', rfl, hR.er, ⟨hv, trivial⟩, hR.hr, by rw [ht]; exact hR.hP, va_K.moved hW.alike hR.hK, hR.hD, hx10, hx11⟩, hR.hS.F ht⟩) hR.hS.2.2 hdq (hlocks := B.notSynchronized)
      cases hret : I.2.2.1 with
      | none => rw [hret] at hek; cases (show false = true from hek)
      | some ty =>
        rw [hret] at hek
        cases ty with
        | int => exact fin .int hret rfl (ex_beq hek)
        | boolean =>
          obtain ⟨z1, z2⟩ := ex_and (show (Nat.beq len 1 && Nat.beq M.2.2.1 1) = true from hek)
          exact fin .boolean hret (ex_zok_ok hR.er (ex_beq z2) g6 hv) (ex_beq z1)
        | _ => cases (show false = true from hek)
    · rename_i v hins
      have hins : ins = .areturn := hins
      subst hins
      obtain ⟨g4, g5⟩ := ex_bifs g2
      injection g5 with g5
      subst g5
      obtain ⟨x, xr, rfl, hv, hr'⟩ := ex_sr_cons hR.sr
      have hxr := ex_sr_nil hr'
      subst hxr
      have hek : ex_ek M.2.2.1 I.2.2.1 (pc, .areturn, len, a1, a2, a3, ts) = true := hqk
      cases hret : I.2.2.1 with
      | none => rw [hret] at hek; cases (show false = true from hek)
      | some ty =>
        rw [hret] at hek
        cases ty with
        | object C =>
          have hl : len = 1 := ex_beq hek
          subst hl
          exact W.aret (rt := .object C) B.exec B.bytes (B.returns.trans hret) (Or.inl ⟨C, rfl⟩) (ex_isR_ok hv g4) (fun t ht hW => ⟨⟨_, ha', some x, ws', tys', rfl, hR.er, ⟨hv, trivial⟩, hR.hr, by rw [ht]; exact hR.hP, va_K.moved hW.alike hR.hK, hR.hD, hx10, hx11⟩, hR.hS.F ht⟩) hR.hS.2.2 hdq (hlocks := B.notSynchronized)
        | _ => cases (show false = true from hek)
    · rename_i hins
      have hins : ins = .return_ := hins
      subst hins
      injection g2 with g5
      subst g5
      have hxr := ex_sr_nil hR.sr
      subst hxr
      have hek : ex_ek M.2.2.1 I.2.2.1 (pc, .return_, len, a1, a2, a3, ts) = true := hqk
      cases hret : I.2.2.1 with
      | none =>
        rw [hret] at hek
        have hl : len = 1 := ex_beq hek
        subst hl
        exact W.vret B.exec B.bytes (B.returns.trans hret) (fun t ht hW => ⟨⟨_, ha', none, ws', tys', rfl, hR.er, trivial, hR.hr, by rw [ht]; exact hR.hP, va_K.moved hW.alike hR.hK, hR.hD, hx10, hx11⟩, hR.hS.F ht⟩) hR.hS.2.2 hdq (hlocks := B.notSynchronized)
      | some ty => rw [hret] at hek; cases (show false = true from hek)
    · cases g2)).2
  rw [lg_entry_eq]
  obtain ⟨a1, a2⟩ := ex_args_ok ha hc 0
  have hl := lv_entry va (n := M.2.1) (by rw [a2]; exact hlen)
  obtain ⟨q, r, hq, hq0⟩ := m8
  exact hG 0 _ [] ws tys s.heap [] ⟨q, r, hq, hq0⟩ (fun q h => h) ⟨⟨_, hl, a1⟩, he, trivial, hh, hK, hP, hD0.self, va_S.rf, ex_xt.rf, fun _ h => h⟩
