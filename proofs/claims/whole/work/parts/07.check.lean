/-! The rows of a method are those of its bytes: a program decides it. -/
def am_pcs (code : List am_I) (j : Nat) : Nat := match code[j]? with
  | some e => am_pc e
  | none => 0
def am_fty (T : u_T) (k : Nat) : FieldType := (parseFieldDescriptor (T k).2.2.1).getD .int
/-- a call: the callee's words and what the call names -/
def am_okC (wd : Nat → Option Jvm.Cond) (MT : List am_M) (own : String) (e : am_I) (idx : Nat) (n : Nat) : Bool := match MT[am_a e]? with
  | some (y, bytes, maxL, ret, pos, _) => decide (wd (pos.1) = some (Jvm.Cond.code y bytes maxL ret)) && decide (wd (pos.2.1) = some (Jvm.Cond.initialized y.cls)) && decide (y.cls ≠ "java/lang/invoke/MethodHandle" ∧ y.cls ≠ "java/lang/invoke/VarHandle" ∧ (parseMethodDescriptor y.desc).map (fun d => d.parameters.length) = some n) && decide (maxL ≤ 17) && (match wd (am_q e) with
    | some (Jvm.Cond.methodLink o i y2) => decide (o = own ∧ i = idx ∧ y2 = y)
    | some (Jvm.Cond.methodLinkNest o i y2 _) => decide (o = own ∧ i = idx ∧ y2 = y)
    | _ => false)
  | none => false
def am_ok (wd : Nat → Option Jvm.Cond) (cl : List vw_C) (tyL : List FieldType) (MT : List am_M) (own nm : String) (cc : ByteArray) (nL : Nat) (ret : Option FieldType) (code : List am_I) (j : Nat) (e : am_I) : Bool :=
  let nx : Bool := decide (am_pcs code (j + 1) = am_pc e + am_len e)
  decide (decode cc (am_pc e) = .ok (am_op e, am_len e)) && (match am_op e with
  | .iconst nn => am_len e == 1 && nx
  | .bipush nn => am_len e == 2 && nx
  | .sipush nn => am_len e == 3 && nx
  | .lconst nn => am_len e == 1 && nx && decide (am_a e = (nn : Nat))
  | .ldc nn => am_len e == 2 && nx && decide (wd (am_q e) = some (Jvm.Cond.constant own nn (Int32.ofNat (am_a e))))
  | .ldc_w nn => am_len e == 3 && nx && decide (wd (am_q e) = some (Jvm.Cond.constant own nn (Int32.ofNat (am_a e))))
  | .ldc2_w nn => am_len e == 3 && nx && decide (wd (am_q e) = some (Jvm.Cond.constantLong own nn (Int64.ofNat (am_a e))))
  | .aconst_null => am_len e == 1 && nx
  | .iload_n nn => am_len e == 1 && nx && decide (am_a e = (nn : Nat))
  | .iload nn => am_len e == 2 && nx && decide (am_a e = nn)
  | .lload_n nn => am_len e == 1 && nx && decide (am_a e = (nn : Nat))
  | .lload nn => am_len e == 2 && nx && decide (am_a e = nn)
  | .aload_n nn => am_len e == 1 && nx && decide (am_a e = (nn : Nat))
  | .aload nn => am_len e == 2 && nx && decide (am_a e = nn)
  | .istore_n nn => am_len e == 1 && nx && decide ((nn : Nat) < nL) && decide (am_a e = (nn : Nat))
  | .istore nn => am_len e == 2 && nx && decide (nn < nL) && decide (am_a e = nn)
  | .lstore_n nn => am_len e == 1 && nx && decide ((nn : Nat) + 1 < nL) && decide (am_a e = (nn : Nat))
  | .lstore nn => am_len e == 2 && nx && decide (nn + 1 < nL) && decide (am_a e = nn)
  | .astore_n nn => am_len e == 1 && nx && decide ((nn : Nat) < nL) && decide (am_a e = (nn : Nat))
  | .astore nn => am_len e == 2 && nx && decide (nn < nL) && decide (am_a e = nn)
  | .iinc nn mm => am_len e == 3 && nx && decide (nn < nL)
  | .iadd => am_len e == 1 && nx
  | .isub => am_len e == 1 && nx
  | .imul => am_len e == 1 && nx
  | .iand => am_len e == 1 && nx
  | .ior => am_len e == 1 && nx
  | .ixor => am_len e == 1 && nx
  | .idiv => am_len e == 1 && nx
  | .irem => am_len e == 1 && nx
  | .ineg => am_len e == 1 && nx
  | .ishl => am_len e == 1 && nx
  | .ishr => am_len e == 1 && nx
  | .iushr => am_len e == 1 && nx
  | .ladd => am_len e == 1 && nx
  | .lsub => am_len e == 1 && nx
  | .lmul => am_len e == 1 && nx
  | .land => am_len e == 1 && nx
  | .lor => am_len e == 1 && nx
  | .lxor => am_len e == 1 && nx
  | .lshl => am_len e == 1 && nx
  | .lshr => am_len e == 1 && nx
  | .lushr => am_len e == 1 && nx
  | .lcmp => am_len e == 1 && nx
  | .i2l => am_len e == 1 && nx
  | .l2i => am_len e == 1 && nx
  | .i2b => am_len e == 1 && nx
  | .dup => am_len e == 1 && nx
  | .pop => am_len e == 1 && nx
  | .dup2 => am_len e == 1 && nx
  | .dup_x1 => am_len e == 1 && nx
  | .ifCond cd off => am_len e == 3 && nx && decide ((am_pc e : Int) + off = (am_pcs code (am_a e) : Int))
  | .if_icmp cd off => am_len e == 3 && nx && decide ((am_pc e : Int) + off = (am_pcs code (am_a e) : Int))
  | .goto off => am_len e == 3 && decide ((am_pc e : Int) + off = (am_pcs code (am_a e) : Int))
  | .tableswitch dflt lo hi offs => decide ((am_pc e : Int) + dflt = (am_pcs code (am_a e) : Int)) && (List.range (am_t e).length).all (fun k => match (am_t e)[k]?, offs[k]? with | some t, some o => decide ((am_pc e : Int) + o = (am_pcs code t : Int)) | _, _ => false)
  | .ifnull off => am_len e == 3 && nx && decide ((am_pc e : Int) + off = (am_pcs code (am_a e) : Int))
  | .ifnonnull off => am_len e == 3 && nx && decide ((am_pc e : Int) + off = (am_pcs code (am_a e) : Int))
  | .getfield idx => am_len e == 3 && nx && decide (am_a e ≠ 1000000) && (match cl[am_a e]? with | some (_, T, N) => decide (am_b e < N) && decide (wd (am_q e) = some (Jvm.Cond.fieldLink own idx (T (am_b e)).1 (T (am_b e)).2.1 (T (am_b e)).2.2.1)) | none => false)
  | .putfield idx => am_len e == 3 && nx && decide (am_a e ≠ 1000000) && (match cl[am_a e]? with | some (_, T, N) => decide (am_b e < N) && decide (wd (am_q e) = some (Jvm.Cond.fieldLink own idx (T (am_b e)).1 (T (am_b e)).2.1 (T (am_b e)).2.2.1)) && decide (am_kt (am_fty T (am_b e)) = am_d e) && decide ((T (am_b e)).2.2.2 = false ∨ ((T (am_b e)).2.2.2 = true ∧ nm = "<init>" ∧ (T (am_b e)).1 = own)) | none => false)
  | .iaload => am_len e == 1 && nx && decide (tyL[0]? = some .int)
  | .laload => am_len e == 1 && nx && decide (tyL[1]? = some .long)
  | .baload => am_len e == 1 && nx && decide (tyL[3]? = some .boolean)
  | .aaload => am_len e == 1 && nx
  | .iastore => am_len e == 1 && nx && decide (tyL[0]? = some .int)
  | .lastore => am_len e == 1 && nx && decide (tyL[1]? = some .long)
  | .bastore => am_len e == 1 && nx && decide (tyL[3]? = some .boolean)
  | .arraylength => am_len e == 1 && nx
  | .newarray at1 => am_len e == 2 && nx && decide (tyL[am_a e]? = some (newarray.typeOf at1)) && decide (wd (am_q e) = some (Jvm.Cond.arrayClass (newarray.typeOf at1))) && (match at1 with | .int => am_a e == 0 | .long => am_a e == 1 | .byte => am_a e == 2 | .boolean => am_a e == 3 | _ => false)
  | .new idx => am_len e == 3 && nx && (match cl[am_a e]? with | some (Cn, _, _) => decide (wd (am_q e) = some (Jvm.Cond.classLink own idx Cn)) | none => false)
  | .multianewarray idx dd => am_len e == 4 && nx && decide (dd = 2) && decide (am_b e = 0) && decide (tyL[0]? = some .int) && decide (tyL[am_a e]? = some (.array .int)) && decide (wd (am_q e) = some (Jvm.Cond.classLink own idx "[[I")) && decide (wd (am_c e) = some (Jvm.Cond.arrayOver (.array .int))) && decide (wd (am_d e) = some (Jvm.Cond.arrayClass .int))
  | .ireturn => decide (am_len e = 1) && (match ret with | some ty => decide (am_kt ty = am_d e) | none => false)
  | .lreturn => decide (am_len e = 1) && decide (ret = some .long)
  | .areturn => decide (am_len e = 1) && (match ret with | some (.object _) => true | some (.array _) => true | _ => false)
  | .return_ => decide (am_len e = 1) && decide (ret = none)
  | .invokespecial idx => am_len e == 3 && nx && (if am_a e = 100000 then decide (wd (am_q e) = some (Jvm.Cond.methodLink own idx Lib.objectInit)) else decide (0 < am_b e) && am_okC wd MT own e idx (am_b e - 1) && (match MT[am_a e]? with | some (y, _, _, rt, pos, _) => decide (y.name = "<init>") && decide (rt = none) && decide (wd (pos.2.2.1) = some (Jvm.Cond.instanceMethod y)) | none => false))
  | .invokestatic idx => am_len e == 3 && nx && am_okC wd MT own e idx (am_b e) && (match MT[am_a e]? with | some (y, _, _, _, pos, _) => decide (wd (pos.2.2.1) = some (Jvm.Cond.static y)) | none => false)
  | .invokevirtual idx => am_len e == 3 && nx && decide (0 < am_b e) && am_okC wd MT own e idx (am_b e - 1) && decide (am_c e ≠ 1000000) && (match MT[am_a e]?, cl[am_c e]? with | some (y, _, _, _, pos, _), some (Cn, _, _) => decide (Cn = y.cls) && decide (wd (pos.2.2.1) = some (Jvm.Cond.instanceMethod y)) && decide (wd (pos.2.2.2) = some (Jvm.Cond.selects Cn y y)) | _, _ => false)
  | _ => false)
def am_clok (Tb : List Jvm.Cond) (df : Nat → List Value) (ci : Nat) (Cn : String) (T : u_T) (N : Nat) : Prop :=
  (∀ w ∈ u_ws Cn T N, w ∈ Tb) ∧ (∀ k, k < N → parseFieldDescriptor (T k).2.2.1 = some (am_fty T k)) ∧ (∀ a, a < N → ∀ b, b < N → a ≠ b → (T a).2.1 ≠ (T b).2.1) ∧ Jvm.Cond.instantiable Cn N ∈ Tb ∧ Jvm.Cond.initialized Cn ∈ Tb ∧ (df ci).length = N ∧ ∀ k, k < N → (df ci)[k]? = some (defaultValue (am_fty T k))
def am_mok (wd : Nat → Option Jvm.Cond) (cl : List vw_C) (tyL : List FieldType) (MT : List am_M) (M : am_M) : Bool :=
  decide (plainName M.1.cls = true) && decide (wd (M.2.2.2.2.1.1) = some (Jvm.Cond.code M.1 M.2.1 M.2.2.1 M.2.2.2.1)) && decide (M.2.2.1 ≤ 17) && decide (am_pcs M.2.2.2.2.2 0 = 0) && (List.range M.2.2.2.2.2.length).all (fun j => match M.2.2.2.2.2[j]? with
    | some e => am_ok wd cl tyL MT M.1.cls M.1.name M.2.1 M.2.2.1 M.2.2.2.1 M.2.2.2.2.2 j e
    | none => false)
def am_Good (Tb : List Jvm.Cond) (wd : Nat → Option Jvm.Cond) (cl : List vw_C) (tyL : List FieldType) (df : Nat → List Value) (MT : List am_M) : Prop :=
  (∀ w ∈ Tb, goodWord w = true) ∧ (∀ (ci : Nat) (Cn : String) (T : u_T) (N : Nat), cl[ci]? = some (Cn, T, N) → am_clok Tb df ci Cn T N) ∧ (∀ (z : Nat) (M : am_M), MT[z]? = some M → am_mok wd cl tyL MT M = true) ∧ Jvm.Cond.instanceMethod Lib.objectInit ∈ Tb ∧ Jvm.Cond.code Lib.objectInit ⟨#[0xb1]⟩ 1 none ∈ Tb ∧ (∀ (t : Nat) (ty : FieldType), 4 ≤ t → tyL[t]? = some ty → ty.isReference = true) ∧ (∀ (q : Nat) (w : Jvm.Cond), wd q = some w → am_hard w = false → w ∈ Tb) ∧ ∀ (q : Nat) (w : Jvm.Cond), wd q = some w → am_hard w = true → w ∈ am_Nd
theorem am_tyx {tyL : List FieldType} {tys : List (ClassId × FieldType)} {t : Nat} {ty : FieldType} (hT : tys.map (fun q => q.2) = tyL) (h : tyL[t]? = some ty) : ∃ cA, tys[t]? = some (cA, ty) := by
  rw [← hT, List.getElem?_map] at h
  cases hq : tys[t]? with
  | none => rw [hq] at h; cases h
  | some q =>
    rw [hq] at h
    obtain ⟨q1, q2⟩ := q
    simp only [Option.map_some, Option.some.injEq] at h
    subst h
    exact ⟨q1, rfl⟩
theorem am_tyr {tyL : List FieldType} {tys : List (ClassId × FieldType)} (hT : tys.map (fun q => q.2) = tyL) (h : ∀ (t : Nat) (ty : FieldType), 4 ≤ t → tyL[t]? = some ty → ty.isReference = true) : ∀ (t : Nat) (q : ClassId × FieldType), 4 ≤ t → tys[t]? = some q → q.2.isReference = true := fun t q ht hq => h t q.2 ht (by rw [← hT, List.getElem?_map, hq]; rfl)
section AMD
variable {p : Program} {l : Launch} {e : Env} {R : Room} {s : State} {m : MethodId} {args : Array Value} {below : List Frame} {meth : Method} {c : Code} {Q : State → Prop}
variable {cc : ByteArray} {D : va_G} {cl : List vw_C} {tys : List (ClassId × FieldType)} {b c0 L : Nat} {xs : Nat → Int32} {h0 h : am_H} {nL : Nat} {own nm : String} {Tb : List Jvm.Cond}
variable {H : Heap} {locs : List Loc} {ls : Array Slot} {cells slots : Nat} {lv : am_L} {st rest : List Value} {j pc : Nat} {X : am_C}
variable {wd : Nat → Option Jvm.Cond} {tyL : List FieldType} {df : Nat → List Value} {MT : List am_M} {ret : Option FieldType} {code : List am_I}
set_option maxHeartbeats 8000000 in
theorem am_simN (G : am_Good Tb wd cl tyL df MT) (hN : am_N s) (hT : tys.map (fun q => q.2) = tyL) (C : CallFix p m c cc nL s args Tb own) (hnm : meth.name = nm) (hfr : 1 ≤ R.frames) (hlo : 20 ≤ R.locals) {E : am_I} (hk : am_kd E = 0) (hok : am_ok wd cl tyL MT own nm cc nL ret code j E = true) (hn : am_next df E j lv st h = some X) (hr : X.2.2.2.2.1 ≤ h0.2.1 + R.cells ∧ X.2.2.2.2.2 ≤ h0.2.2 + R.slots) (hB : am_B D cl tys b c0 L xs s h0 nL h lv H locs ls cells slots) (K : am_K p l e R s m args below meth c Q D cl tys b c0 L xs h0 nL (am_pcs code) X) : W p l e R s m args below meth c H locs cells slots Q (F0 m (am_pc E) ls (st.map (am_r b c0))) := by
  obtain ⟨pc, len, i, a, b', c', d', q⟩ := E
  cases i
  case iconst nn =>
    simp only [am_ok, am_op, am_pc, am_len, am_a, am_b, am_c, am_d, am_q, am_t, Bool.and_eq_true, Bool.or_eq_true, beq_iff_eq, decide_eq_true_eq] at hok
    obtain ⟨hd, hl, hnx⟩ := hok
    subst hl
    exact am_w_iconst C hd hnx hn hB K
  case bipush nn =>
    simp only [am_ok, am_op, am_pc, am_len, am_a, am_b, am_c, am_d, am_q, am_t, Bool.and_eq_true, Bool.or_eq_true, beq_iff_eq, decide_eq_true_eq] at hok
    obtain ⟨hd, hl, hnx⟩ := hok
    subst hl
    exact am_w_bipush C hd hnx hn hB K
  case sipush nn =>
    simp only [am_ok, am_op, am_pc, am_len, am_a, am_b, am_c, am_d, am_q, am_t, Bool.and_eq_true, Bool.or_eq_true, beq_iff_eq, decide_eq_true_eq] at hok
    obtain ⟨hd, hl, hnx⟩ := hok
    subst hl
    exact am_w_sipush C hd hnx hn hB K
  case lconst nn =>
    simp only [am_ok, am_op, am_pc, am_len, am_a, am_b, am_c, am_d, am_q, am_t, Bool.and_eq_true, Bool.or_eq_true, beq_iff_eq, decide_eq_true_eq] at hok
    obtain ⟨hd, ⟨hl, hnx⟩, ha⟩ := hok
    subst hl
    subst ha
    exact am_w_lconst C hd hnx hn hB K
  case ldc nn =>
    simp only [am_ok, am_op, am_pc, am_len, am_a, am_b, am_c, am_d, am_q, am_t, Bool.and_eq_true, Bool.or_eq_true, beq_iff_eq, decide_eq_true_eq] at hok
    obtain ⟨hd, ⟨hl, hnx⟩, hw⟩ := hok
    subst hl
    exact am_w_ldc C (G.2.2.2.2.2.2.1 _ _ hw rfl) hd hnx hn hB K
  case ldc_w nn =>
    simp only [am_ok, am_op, am_pc, am_len, am_a, am_b, am_c, am_d, am_q, am_t, Bool.and_eq_true, Bool.or_eq_true, beq_iff_eq, decide_eq_true_eq] at hok
    obtain ⟨hd, ⟨hl, hnx⟩, hw⟩ := hok
    subst hl
    exact am_w_ldc_w C (G.2.2.2.2.2.2.1 _ _ hw rfl) hd hnx hn hB K
  case ldc2_w nn =>
    simp only [am_ok, am_op, am_pc, am_len, am_a, am_b, am_c, am_d, am_q, am_t, Bool.and_eq_true, Bool.or_eq_true, beq_iff_eq, decide_eq_true_eq] at hok
    obtain ⟨hd, ⟨hl, hnx⟩, hw⟩ := hok
    subst hl
    exact am_w_ldc2_w C (G.2.2.2.2.2.2.1 _ _ hw rfl) hd hnx hn hB K
  case aconst_null =>
    simp only [am_ok, am_op, am_pc, am_len, am_a, am_b, am_c, am_d, am_q, am_t, Bool.and_eq_true, Bool.or_eq_true, beq_iff_eq, decide_eq_true_eq] at hok
    obtain ⟨hd, hl, hnx⟩ := hok
    subst hl
    exact am_w_aconst_null C hd hnx hn hB K
  case iload_n nn =>
    simp only [am_ok, am_op, am_pc, am_len, am_a, am_b, am_c, am_d, am_q, am_t, Bool.and_eq_true, Bool.or_eq_true, beq_iff_eq, decide_eq_true_eq] at hok
    obtain ⟨hd, ⟨hl, hnx⟩, ha⟩ := hok
    subst hl
    subst ha
    exact am_w_iload_n C hd hnx hn hB K
  case iload nn =>
    simp only [am_ok, am_op, am_pc, am_len, am_a, am_b, am_c, am_d, am_q, am_t, Bool.and_eq_true, Bool.or_eq_true, beq_iff_eq, decide_eq_true_eq] at hok
    obtain ⟨hd, ⟨hl, hnx⟩, ha⟩ := hok
    subst hl
    subst ha
    exact am_w_iload C hd hnx hn hB K
  case lload_n nn =>
    simp only [am_ok, am_op, am_pc, am_len, am_a, am_b, am_c, am_d, am_q, am_t, Bool.and_eq_true, Bool.or_eq_true, beq_iff_eq, decide_eq_true_eq] at hok
    obtain ⟨hd, ⟨hl, hnx⟩, ha⟩ := hok
    subst hl
    subst ha
    exact am_w_lload_n C hd hnx hn hB K
  case lload nn =>
    simp only [am_ok, am_op, am_pc, am_len, am_a, am_b, am_c, am_d, am_q, am_t, Bool.and_eq_true, Bool.or_eq_true, beq_iff_eq, decide_eq_true_eq] at hok
    obtain ⟨hd, ⟨hl, hnx⟩, ha⟩ := hok
    subst hl
    subst ha
    exact am_w_lload C hd hnx hn hB K
  case aload_n nn =>
    simp only [am_ok, am_op, am_pc, am_len, am_a, am_b, am_c, am_d, am_q, am_t, Bool.and_eq_true, Bool.or_eq_true, beq_iff_eq, decide_eq_true_eq] at hok
    obtain ⟨hd, ⟨hl, hnx⟩, ha⟩ := hok
    subst hl
    subst ha
    exact am_w_aload_n C hd hnx hn hB K
  case aload nn =>
    simp only [am_ok, am_op, am_pc, am_len, am_a, am_b, am_c, am_d, am_q, am_t, Bool.and_eq_true, Bool.or_eq_true, beq_iff_eq, decide_eq_true_eq] at hok
    obtain ⟨hd, ⟨hl, hnx⟩, ha⟩ := hok
    subst hl
    subst ha
    exact am_w_aload C hd hnx hn hB K
  case istore_n nn =>
    simp only [am_ok, am_op, am_pc, am_len, am_a, am_b, am_c, am_d, am_q, am_t, Bool.and_eq_true, Bool.or_eq_true, beq_iff_eq, decide_eq_true_eq] at hok
    obtain ⟨hd, ⟨⟨hl, hnx⟩, hlim⟩, ha⟩ := hok
    subst hl
    subst ha
    exact am_w_istore_n C hd hnx hlim hn hB K
  case istore nn =>
    simp only [am_ok, am_op, am_pc, am_len, am_a, am_b, am_c, am_d, am_q, am_t, Bool.and_eq_true, Bool.or_eq_true, beq_iff_eq, decide_eq_true_eq] at hok
    obtain ⟨hd, ⟨⟨hl, hnx⟩, hlim⟩, ha⟩ := hok
    subst hl
    subst ha
    exact am_w_istore C hd hnx hlim hn hB K
  case lstore_n nn =>
    simp only [am_ok, am_op, am_pc, am_len, am_a, am_b, am_c, am_d, am_q, am_t, Bool.and_eq_true, Bool.or_eq_true, beq_iff_eq, decide_eq_true_eq] at hok
    obtain ⟨hd, ⟨⟨hl, hnx⟩, hlim⟩, ha⟩ := hok
    subst hl
    subst ha
    exact am_w_lstore_n C hd hnx hlim hn hB K
  case lstore nn =>
    simp only [am_ok, am_op, am_pc, am_len, am_a, am_b, am_c, am_d, am_q, am_t, Bool.and_eq_true, Bool.or_eq_true, beq_iff_eq, decide_eq_true_eq] at hok
    obtain ⟨hd, ⟨⟨hl, hnx⟩, hlim⟩, ha⟩ := hok
    subst hl
    subst ha
    exact am_w_lstore C hd hnx hlim hn hB K
  case astore_n nn =>
    simp only [am_ok, am_op, am_pc, am_len, am_a, am_b, am_c, am_d, am_q, am_t, Bool.and_eq_true, Bool.or_eq_true, beq_iff_eq, decide_eq_true_eq] at hok
    obtain ⟨hd, ⟨⟨hl, hnx⟩, hlim⟩, ha⟩ := hok
    subst hl
    subst ha
    exact am_w_astore_n C hd hnx hlim hn hB K
  case astore nn =>
    simp only [am_ok, am_op, am_pc, am_len, am_a, am_b, am_c, am_d, am_q, am_t, Bool.and_eq_true, Bool.or_eq_true, beq_iff_eq, decide_eq_true_eq] at hok
    obtain ⟨hd, ⟨⟨hl, hnx⟩, hlim⟩, ha⟩ := hok
    subst hl
    subst ha
    exact am_w_astore C hd hnx hlim hn hB K
  case iinc nn mm =>
    simp only [am_ok, am_op, am_pc, am_len, am_a, am_b, am_c, am_d, am_q, am_t, Bool.and_eq_true, Bool.or_eq_true, beq_iff_eq, decide_eq_true_eq] at hok
    obtain ⟨hd, ⟨hl, hnx⟩, hlim⟩ := hok
    subst hl
    exact am_w_iinc C hd hnx hlim hn hB K
  case iadd =>
    simp only [am_ok, am_op, am_pc, am_len, am_a, am_b, am_c, am_d, am_q, am_t, Bool.and_eq_true, Bool.or_eq_true, beq_iff_eq, decide_eq_true_eq] at hok
    obtain ⟨hd, hl, hnx⟩ := hok
    subst hl
    exact am_w_iadd C hd hnx hn hB K
  case isub =>
    simp only [am_ok, am_op, am_pc, am_len, am_a, am_b, am_c, am_d, am_q, am_t, Bool.and_eq_true, Bool.or_eq_true, beq_iff_eq, decide_eq_true_eq] at hok
    obtain ⟨hd, hl, hnx⟩ := hok
    subst hl
    exact am_w_isub C hd hnx hn hB K
  case imul =>
    simp only [am_ok, am_op, am_pc, am_len, am_a, am_b, am_c, am_d, am_q, am_t, Bool.and_eq_true, Bool.or_eq_true, beq_iff_eq, decide_eq_true_eq] at hok
    obtain ⟨hd, hl, hnx⟩ := hok
    subst hl
    exact am_w_imul C hd hnx hn hB K
  case iand =>
    simp only [am_ok, am_op, am_pc, am_len, am_a, am_b, am_c, am_d, am_q, am_t, Bool.and_eq_true, Bool.or_eq_true, beq_iff_eq, decide_eq_true_eq] at hok
    obtain ⟨hd, hl, hnx⟩ := hok
    subst hl
    exact am_w_iand C hd hnx hn hB K
  case ior =>
    simp only [am_ok, am_op, am_pc, am_len, am_a, am_b, am_c, am_d, am_q, am_t, Bool.and_eq_true, Bool.or_eq_true, beq_iff_eq, decide_eq_true_eq] at hok
    obtain ⟨hd, hl, hnx⟩ := hok
    subst hl
    exact am_w_ior C hd hnx hn hB K
  case ixor =>
    simp only [am_ok, am_op, am_pc, am_len, am_a, am_b, am_c, am_d, am_q, am_t, Bool.and_eq_true, Bool.or_eq_true, beq_iff_eq, decide_eq_true_eq] at hok
    obtain ⟨hd, hl, hnx⟩ := hok
    subst hl
    exact am_w_ixor C hd hnx hn hB K
  case idiv =>
    simp only [am_ok, am_op, am_pc, am_len, am_a, am_b, am_c, am_d, am_q, am_t, Bool.and_eq_true, Bool.or_eq_true, beq_iff_eq, decide_eq_true_eq] at hok
    obtain ⟨hd, hl, hnx⟩ := hok
    subst hl
    exact am_w_idiv C hd hnx hn hB K
  case irem =>
    simp only [am_ok, am_op, am_pc, am_len, am_a, am_b, am_c, am_d, am_q, am_t, Bool.and_eq_true, Bool.or_eq_true, beq_iff_eq, decide_eq_true_eq] at hok
    obtain ⟨hd, hl, hnx⟩ := hok
    subst hl
    exact am_w_irem C hd hnx hn hB K
  case ineg =>
    simp only [am_ok, am_op, am_pc, am_len, am_a, am_b, am_c, am_d, am_q, am_t, Bool.and_eq_true, Bool.or_eq_true, beq_iff_eq, decide_eq_true_eq] at hok
    obtain ⟨hd, hl, hnx⟩ := hok
    subst hl
    exact am_w_ineg C hd hnx hn hB K
  case ishl =>
    simp only [am_ok, am_op, am_pc, am_len, am_a, am_b, am_c, am_d, am_q, am_t, Bool.and_eq_true, Bool.or_eq_true, beq_iff_eq, decide_eq_true_eq] at hok
    obtain ⟨hd, hl, hnx⟩ := hok
    subst hl
    exact am_w_ishl C hd hnx hn hB K
  case ishr =>
    simp only [am_ok, am_op, am_pc, am_len, am_a, am_b, am_c, am_d, am_q, am_t, Bool.and_eq_true, Bool.or_eq_true, beq_iff_eq, decide_eq_true_eq] at hok
    obtain ⟨hd, hl, hnx⟩ := hok
    subst hl
    exact am_w_ishr C hd hnx hn hB K
  case iushr =>
    simp only [am_ok, am_op, am_pc, am_len, am_a, am_b, am_c, am_d, am_q, am_t, Bool.and_eq_true, Bool.or_eq_true, beq_iff_eq, decide_eq_true_eq] at hok
    obtain ⟨hd, hl, hnx⟩ := hok
    subst hl
    exact am_w_iushr C hd hnx hn hB K
  case ladd =>
    simp only [am_ok, am_op, am_pc, am_len, am_a, am_b, am_c, am_d, am_q, am_t, Bool.and_eq_true, Bool.or_eq_true, beq_iff_eq, decide_eq_true_eq] at hok
    obtain ⟨hd, hl, hnx⟩ := hok
    subst hl
    exact am_w_ladd C hd hnx hn hB K
  case lsub =>
    simp only [am_ok, am_op, am_pc, am_len, am_a, am_b, am_c, am_d, am_q, am_t, Bool.and_eq_true, Bool.or_eq_true, beq_iff_eq, decide_eq_true_eq] at hok
    obtain ⟨hd, hl, hnx⟩ := hok
    subst hl
    exact am_w_lsub C hd hnx hn hB K
  case lmul =>
    simp only [am_ok, am_op, am_pc, am_len, am_a, am_b, am_c, am_d, am_q, am_t, Bool.and_eq_true, Bool.or_eq_true, beq_iff_eq, decide_eq_true_eq] at hok
    obtain ⟨hd, hl, hnx⟩ := hok
    subst hl
    exact am_w_lmul C hd hnx hn hB K
  case land =>
    simp only [am_ok, am_op, am_pc, am_len, am_a, am_b, am_c, am_d, am_q, am_t, Bool.and_eq_true, Bool.or_eq_true, beq_iff_eq, decide_eq_true_eq] at hok
    obtain ⟨hd, hl, hnx⟩ := hok
    subst hl
    exact am_w_land C hd hnx hn hB K
  case lor =>
    simp only [am_ok, am_op, am_pc, am_len, am_a, am_b, am_c, am_d, am_q, am_t, Bool.and_eq_true, Bool.or_eq_true, beq_iff_eq, decide_eq_true_eq] at hok
    obtain ⟨hd, hl, hnx⟩ := hok
    subst hl
    exact am_w_lor C hd hnx hn hB K
  case lxor =>
    simp only [am_ok, am_op, am_pc, am_len, am_a, am_b, am_c, am_d, am_q, am_t, Bool.and_eq_true, Bool.or_eq_true, beq_iff_eq, decide_eq_true_eq] at hok
    obtain ⟨hd, hl, hnx⟩ := hok
    subst hl
    exact am_w_lxor C hd hnx hn hB K
  case lshl =>
    simp only [am_ok, am_op, am_pc, am_len, am_a, am_b, am_c, am_d, am_q, am_t, Bool.and_eq_true, Bool.or_eq_true, beq_iff_eq, decide_eq_true_eq] at hok
    obtain ⟨hd, hl, hnx⟩ := hok
    subst hl
    exact am_w_lshl C hd hnx hn hB K
  case lshr =>
    simp only [am_ok, am_op, am_pc, am_len, am_a, am_b, am_c, am_d, am_q, am_t, Bool.and_eq_true, Bool.or_eq_true, beq_iff_eq, decide_eq_true_eq] at hok
    obtain ⟨hd, hl, hnx⟩ := hok
    subst hl
    exact am_w_lshr C hd hnx hn hB K
  case lushr =>
    simp only [am_ok, am_op, am_pc, am_len, am_a, am_b, am_c, am_d, am_q, am_t, Bool.and_eq_true, Bool.or_eq_true, beq_iff_eq, decide_eq_true_eq] at hok
    obtain ⟨hd, hl, hnx⟩ := hok
    subst hl
    exact am_w_lushr C hd hnx hn hB K
  case lcmp =>
    simp only [am_ok, am_op, am_pc, am_len, am_a, am_b, am_c, am_d, am_q, am_t, Bool.and_eq_true, Bool.or_eq_true, beq_iff_eq, decide_eq_true_eq] at hok
    obtain ⟨hd, hl, hnx⟩ := hok
    subst hl
    exact am_w_lcmp C hd hnx hn hB K
  case i2l =>
    simp only [am_ok, am_op, am_pc, am_len, am_a, am_b, am_c, am_d, am_q, am_t, Bool.and_eq_true, Bool.or_eq_true, beq_iff_eq, decide_eq_true_eq] at hok
    obtain ⟨hd, hl, hnx⟩ := hok
    subst hl
    exact am_w_i2l C hd hnx hn hB K
  case l2i =>
    simp only [am_ok, am_op, am_pc, am_len, am_a, am_b, am_c, am_d, am_q, am_t, Bool.and_eq_true, Bool.or_eq_true, beq_iff_eq, decide_eq_true_eq] at hok
    obtain ⟨hd, hl, hnx⟩ := hok
    subst hl
    exact am_w_l2i C hd hnx hn hB K
  case i2b =>
    simp only [am_ok, am_op, am_pc, am_len, am_a, am_b, am_c, am_d, am_q, am_t, Bool.and_eq_true, Bool.or_eq_true, beq_iff_eq, decide_eq_true_eq] at hok
    obtain ⟨hd, hl, hnx⟩ := hok
    subst hl
    exact am_w_i2b C hd hnx hn hB K
  case dup =>
    simp only [am_ok, am_op, am_pc, am_len, am_a, am_b, am_c, am_d, am_q, am_t, Bool.and_eq_true, Bool.or_eq_true, beq_iff_eq, decide_eq_true_eq] at hok
    obtain ⟨hd, hl, hnx⟩ := hok
    subst hl
    exact am_w_dup C hd hnx hn hB K
  case pop =>
    simp only [am_ok, am_op, am_pc, am_len, am_a, am_b, am_c, am_d, am_q, am_t, Bool.and_eq_true, Bool.or_eq_true, beq_iff_eq, decide_eq_true_eq] at hok
    obtain ⟨hd, hl, hnx⟩ := hok
    subst hl
    exact am_w_pop C hd hnx hn hB K
  case dup2 =>
    simp only [am_ok, am_op, am_pc, am_len, am_a, am_b, am_c, am_d, am_q, am_t, Bool.and_eq_true, Bool.or_eq_true, beq_iff_eq, decide_eq_true_eq] at hok
    obtain ⟨hd, hl, hnx⟩ := hok
    subst hl
    exact am_w_dup2 C hd hnx hn hB K
  case dup_x1 =>
    simp only [am_ok, am_op, am_pc, am_len, am_a, am_b, am_c, am_d, am_q, am_t, Bool.and_eq_true, Bool.or_eq_true, beq_iff_eq, decide_eq_true_eq] at hok
    obtain ⟨hd, hl, hnx⟩ := hok
    subst hl
    exact am_w_dup_x1 C hd hnx hn hB K
  case ifCond cd off =>
    simp only [am_ok, am_op, am_pc, am_len, am_a, am_b, am_c, am_d, am_q, am_t, Bool.and_eq_true, Bool.or_eq_true, beq_iff_eq, decide_eq_true_eq] at hok
    obtain ⟨hd, ⟨hl, hnx⟩, ht⟩ := hok
    subst hl
    exact am_w_ifCond C hd hnx ht hn hB K
  case if_icmp cd off =>
    simp only [am_ok, am_op, am_pc, am_len, am_a, am_b, am_c, am_d, am_q, am_t, Bool.and_eq_true, Bool.or_eq_true, beq_iff_eq, decide_eq_true_eq] at hok
    obtain ⟨hd, ⟨hl, hnx⟩, ht⟩ := hok
    subst hl
    exact am_w_if_icmp C hd hnx ht hn hB K
  case goto off =>
    simp only [am_ok, am_op, am_pc, am_len, am_a, am_b, am_c, am_d, am_q, am_t, Bool.and_eq_true, Bool.or_eq_true, beq_iff_eq, decide_eq_true_eq] at hok
    obtain ⟨hd, hl, ht⟩ := hok
    subst hl
    exact am_w_goto C hd ht hn hB K
  case tableswitch dflt lo hi offs =>
    simp only [am_ok, am_op, am_pc, am_len, am_a, am_b, am_c, am_d, am_q, am_t, Bool.and_eq_true, Bool.or_eq_true, beq_iff_eq, decide_eq_true_eq] at hok
    obtain ⟨hd, h1, h2⟩ := hok
    refine am_w_tableswitch C hd h1 (fun k t hk => ?_) hn hB K
    have h3 := List.all_eq_true.mp h2 k (List.mem_range.mpr (List.getElem?_eq_some_iff.mp hk).1)
    rw [hk] at h3
    split at h3
    · rename_i t9 o9 e1 e2
      cases e1
      exact ⟨o9, e2, of_decide_eq_true h3⟩
    · cases h3
  case ifnull off =>
    simp only [am_ok, am_op, am_pc, am_len, am_a, am_b, am_c, am_d, am_q, am_t, Bool.and_eq_true, Bool.or_eq_true, beq_iff_eq, decide_eq_true_eq] at hok
    obtain ⟨hd, ⟨hl, hnx⟩, ht⟩ := hok
    subst hl
    exact am_w_ifnull C hd hnx ht hn hB K
  case ifnonnull off =>
    simp only [am_ok, am_op, am_pc, am_len, am_a, am_b, am_c, am_d, am_q, am_t, Bool.and_eq_true, Bool.or_eq_true, beq_iff_eq, decide_eq_true_eq] at hok
    obtain ⟨hd, ⟨hl, hnx⟩, ht⟩ := hok
    subst hl
    exact am_w_ifnonnull C hd hnx ht hn hB K
  case getfield idx =>
    simp only [am_ok, am_op, am_pc, am_len, am_a, am_b, am_c, am_d, am_q, am_t, Bool.and_eq_true, Bool.or_eq_true, beq_iff_eq, decide_eq_true_eq] at hok
    obtain ⟨hd, ⟨⟨hl, hnx⟩, ha⟩, hf⟩ := hok
    subst hl
    split at hf
    · rename_i Cn T N hc
      simp only [Bool.and_eq_true, decide_eq_true_eq] at hf
      obtain ⟨hf1, hf2⟩ := hf
      exact am_w_getfield C hd hnx hc hf1 (G.2.1 _ _ _ _ hc).1 (G.2.2.2.2.2.2.1 _ _ hf2 rfl) ha hn hB K
    · cases hf
  case putfield idx =>
    simp only [am_ok, am_op, am_pc, am_len, am_a, am_b, am_c, am_d, am_q, am_t, Bool.and_eq_true, Bool.or_eq_true, beq_iff_eq, decide_eq_true_eq] at hok
    obtain ⟨hd, ⟨⟨hl, hnx⟩, ha⟩, hf⟩ := hok
    subst hl
    split at hf
    · rename_i Cn T N hc
      simp only [Bool.and_eq_true, decide_eq_true_eq] at hf
      obtain ⟨⟨⟨hf1, hf2⟩, hf3⟩, hf4⟩ := hf
      exact am_w_putfield C hd hnx hc hf1 (G.2.1 _ _ _ _ hc).1 (am_fty T) (G.2.1 _ _ _ _ hc).2.1 (G.2.1 _ _ _ _ hc).2.2.1 (G.2.2.2.2.2.2.1 _ _ hf2 rfl) (by rw [hnm]; exact hf4) hf3 ha hn hB K
    · cases hf
  case iaload =>
    simp only [am_ok, am_op, am_pc, am_len, am_a, am_b, am_c, am_d, am_q, am_t, Bool.and_eq_true, Bool.or_eq_true, beq_iff_eq, decide_eq_true_eq] at hok
    obtain ⟨hd, ⟨hl, hnx⟩, ht⟩ := hok
    subst hl
    exact am_w_iaload C hd hnx (am_tyx hT ht) hn hB K
  case laload =>
    simp only [am_ok, am_op, am_pc, am_len, am_a, am_b, am_c, am_d, am_q, am_t, Bool.and_eq_true, Bool.or_eq_true, beq_iff_eq, decide_eq_true_eq] at hok
    obtain ⟨hd, ⟨hl, hnx⟩, ht⟩ := hok
    subst hl
    exact am_w_laload C hd hnx (am_tyx hT ht) hn hB K
  case baload =>
    simp only [am_ok, am_op, am_pc, am_len, am_a, am_b, am_c, am_d, am_q, am_t, Bool.and_eq_true, Bool.or_eq_true, beq_iff_eq, decide_eq_true_eq] at hok
    obtain ⟨hd, ⟨hl, hnx⟩, ht3⟩ := hok
    subst hl
    exact am_w_baload C hd hnx (am_tyx hT ht3) hn hB K
  case aaload =>
    simp only [am_ok, am_op, am_pc, am_len, am_a, am_b, am_c, am_d, am_q, am_t, Bool.and_eq_true, Bool.or_eq_true, beq_iff_eq, decide_eq_true_eq] at hok
    obtain ⟨hd, hl, hnx⟩ := hok
    subst hl
    exact am_w_aaload C hd hnx (am_tyr hT G.2.2.2.2.2.1) hn hB K
  case iastore =>
    simp only [am_ok, am_op, am_pc, am_len, am_a, am_b, am_c, am_d, am_q, am_t, Bool.and_eq_true, Bool.or_eq_true, beq_iff_eq, decide_eq_true_eq] at hok
    obtain ⟨hd, ⟨hl, hnx⟩, ht⟩ := hok
    subst hl
    exact am_w_iastore C hd hnx (am_tyx hT ht) hn hB K
  case lastore =>
    simp only [am_ok, am_op, am_pc, am_len, am_a, am_b, am_c, am_d, am_q, am_t, Bool.and_eq_true, Bool.or_eq_true, beq_iff_eq, decide_eq_true_eq] at hok
    obtain ⟨hd, ⟨hl, hnx⟩, ht⟩ := hok
    subst hl
    exact am_w_lastore C hd hnx (am_tyx hT ht) hn hB K
  case bastore =>
    simp only [am_ok, am_op, am_pc, am_len, am_a, am_b, am_c, am_d, am_q, am_t, Bool.and_eq_true, Bool.or_eq_true, beq_iff_eq, decide_eq_true_eq] at hok
    obtain ⟨hd, ⟨hl, hnx⟩, ht3⟩ := hok
    subst hl
    exact am_w_bastore C hd hnx (am_tyx hT ht3) hn hB K
  case arraylength =>
    simp only [am_ok, am_op, am_pc, am_len, am_a, am_b, am_c, am_d, am_q, am_t, Bool.and_eq_true, Bool.or_eq_true, beq_iff_eq, decide_eq_true_eq] at hok
    obtain ⟨hd, hl, hnx⟩ := hok
    subst hl
    exact am_w_arraylength C hd hnx hn hB K
  case newarray at1 =>
    simp only [am_ok, am_op, am_pc, am_len, am_a, am_b, am_c, am_d, am_q, am_t, Bool.and_eq_true, Bool.or_eq_true, beq_iff_eq, decide_eq_true_eq] at hok
    obtain ⟨hd, ⟨⟨⟨hl, hnx⟩, ht⟩, hw⟩, ha⟩ := hok
    subst hl
    cases at1 <;> first | (cases ha; done) | (simp only [beq_iff_eq] at ha; subst ha; exact am_w_newarray C hd hnx (am_tyx hT ht) (G.2.2.2.2.2.2.1 _ _ hw rfl) (fun _ _ => rfl) (by decide) hn hr hB K)
  case new idx =>
    simp only [am_ok, am_op, am_pc, am_len, am_a, am_b, am_c, am_d, am_q, am_t, Bool.and_eq_true, Bool.or_eq_true, beq_iff_eq, decide_eq_true_eq] at hok
    obtain ⟨hd, ⟨hl, hnx⟩, hf⟩ := hok
    subst hl
    split at hf
    · rename_i Cn T N hc
      simp only [decide_eq_true_eq] at hf
      exact am_w_new C hd hnx hc (G.2.1 _ _ _ _ hc).1 (am_fty T) (G.2.1 _ _ _ _ hc).2.1 (G.2.2.2.2.2.2.1 _ _ hf rfl) (G.2.1 _ _ _ _ hc).2.2.2.1 (G.2.1 _ _ _ _ hc).2.2.2.2.1 (G.2.1 _ _ _ _ hc).2.2.2.2.2.1 (G.2.1 _ _ _ _ hc).2.2.2.2.2.2 hn hr hB K
    · cases hf
  case multianewarray idx dd =>
    simp only [am_ok, am_op, am_pc, am_len, am_a, am_b, am_c, am_d, am_q, am_t, Bool.and_eq_true, Bool.or_eq_true, beq_iff_eq, decide_eq_true_eq] at hok
    obtain ⟨hd, ⟨⟨⟨⟨⟨⟨⟨hl, hnx⟩, hdd⟩, hb0⟩, ht0⟩, ht⟩, hw1⟩, hw2⟩, hw3⟩ := hok
    subst hl
    subst hdd
    subst hb0
    exact am_w_multi C hd hnx (am_tyx hT ht0) (am_tyx hT ht) (G.2.2.2.2.2.2.1 _ _ hw1 rfl) (am_hard_eq rfl rfl (hN _ (G.2.2.2.2.2.2.2 _ _ hw2 rfl))) (G.2.2.2.2.2.2.1 _ _ hw3 rfl) hn hr hB K
  case invokespecial idx =>
    simp only [am_kd, am_op, am_a] at hk
    split at hk
    · rename_i ha
      subst ha
      simp only [am_ok, am_op, am_pc, am_len, am_a, am_b, am_c, am_d, am_q, Bool.and_eq_true, beq_iff_eq, decide_eq_true_eq, if_true] at hok
      obtain ⟨hd, ⟨hl, hnx⟩, hw⟩ := hok
      subst hl
      exact am_w_objInit C hd hnx (G.2.2.2.2.2.2.1 _ _ hw rfl) G.2.2.2.1 G.2.2.2.2.1 hfr hlo hn hB K
    · cases hk
  all_goals exact absurd hn (fun q => by cases q)
end AMD
