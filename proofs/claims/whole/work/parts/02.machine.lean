/-! THE MACHINE OVER NUMBERED CELLS. A cell is an array (number of its type, length, contents) or an object (number of its class, fields); cell 0 is the script; cells come one behind another. A method's code is a list of rows (pc, length, instruction, four resolved numbers, a place in the words, a switch's targets). -/
abbrev am_E : Type := (Nat × vp_A) ⊕ (Nat × List Value)
abbrev am_H : Type := (Nat → am_E) × Nat × Nat
abbrev am_L : Type := List (Nat × Value)
abbrev am_C : Type := Nat × am_L × List Value × am_H
abbrev am_I : Type := Nat × Nat × Instr × Nat × Nat × Nat × Nat × Nat × List Nat
abbrev am_pc (e : am_I) : Nat := e.1
abbrev am_len (e : am_I) : Nat := e.2.1
abbrev am_op (e : am_I) : Instr := e.2.2.1
abbrev am_a (e : am_I) : Nat := e.2.2.2.1
abbrev am_b (e : am_I) : Nat := e.2.2.2.2.1
abbrev am_c (e : am_I) : Nat := e.2.2.2.2.2.1
abbrev am_d (e : am_I) : Nat := e.2.2.2.2.2.2.1
abbrev am_q (e : am_I) : Nat := e.2.2.2.2.2.2.2.1
abbrev am_t (e : am_I) : List Nat := e.2.2.2.2.2.2.2.2
def am_z : am_E := .inr (1000000, [])
def am_put (h : am_H) (a : Nat) (e : am_E) : am_H := (va_up h.1 a e, h.2)
def am_mk (h : am_H) (e : am_E) (k : Nat) : am_H := (va_up h.1 h.2.1 e, h.2.1 + 1, h.2.2 + k)
/-- n rows of k places behind their outer array -/
def am_mk2 (h : am_H) (t u n k : Nat) (x : (Nat → Int32) ⊕ (Nat → Int64) ⊕ (Nat → UInt32) ⊕ (Nat → UInt64) ⊕ (Nat → Option Nat)) : am_H :=
  (fun q => if q = h.2.1 then .inl (t, n, .inr (.inr (.inr (.inr (fun i => if i < n then some (h.2.1 + 1 + i) else none))))) else if h.2.1 < q ∧ q ≤ h.2.1 + n then .inl (u, k, x) else h.1 q, h.2.1 + 1 + n, h.2.2 + n + n * k)
def am_lk (lv : am_L) (k : Nat) : Option Value := (lv.find? (fun q => q.1 == k)).map (fun q => q.2)
def am_s1 (lv : am_L) (k : Nat) (v : Value) : am_L := (k, v) :: lv.filter (fun q => !(q.1 == k) && !(q.1 + 1 == k && q.2.category == 2))
def am_s2 (lv : am_L) (k : Nat) (v : Value) : am_L := (k, v) :: lv.filter (fun q => !(q.1 == k) && (!(q.1 == k + 1) && !(q.1 + 1 == k && q.2.category == 2)))
def am_i1 (st : List Value) (k : Int32 → List Value → Option am_C) : Option am_C := match st with
  | .int x :: r => k x r
  | _ => none
def am_i2 (st : List Value) (k : Int32 → Int32 → List Value → Option am_C) : Option am_C := match st with
  | .int y :: .int x :: r => k x y r
  | _ => none
def am_l1 (st : List Value) (k : Int64 → List Value → Option am_C) : Option am_C := match st with
  | .long x :: r => k x r
  | _ => none
def am_l2 (st : List Value) (k : Int64 → Int64 → List Value → Option am_C) : Option am_C := match st with
  | .long y :: .long x :: r => k x y r
  | _ => none
def am_li (st : List Value) (k : Int64 → Int32 → List Value → Option am_C) : Option am_C := match st with
  | .int y :: .long x :: r => k x y r
  | _ => none
def am_r1 (st : List Value) (k : Nat → List Value → Option am_C) : Option am_C := match st with
  | .ref x :: r => k x r
  | _ => none
def am_ir (st : List Value) (k : Int32 → Nat → List Value → Option am_C) : Option am_C := match st with
  | .int i :: .ref x :: r => k i x r
  | _ => none
def am_vr (st : List Value) (k : Value → Nat → List Value → Option am_C) : Option am_C := match st with
  | v :: .ref x :: r => k v x r
  | _ => none
def am_iir (st : List Value) (k : Int32 → Int32 → Nat → List Value → Option am_C) : Option am_C := match st with
  | .int v :: .int i :: .ref x :: r => k v i x r
  | _ => none
def am_lir (st : List Value) (k : Int64 → Int32 → Nat → List Value → Option am_C) : Option am_C := match st with
  | .long v :: .int i :: .ref x :: r => k v i x r
  | _ => none
def am_v1 (st : List Value) (k : Value → List Value → Option am_C) : Option am_C := match st with
  | v :: r => k v r
  | _ => none
def am_v2 (st : List Value) (k : Value → Value → List Value → Option am_C) : Option am_C := match st with
  | v :: w :: r => k v w r
  | _ => none
/-- where a reference is nothing, and where it is something -/
def am_nl (st : List Value) (k0 : List Value → Option am_C) (k1 : List Value → Option am_C) : Option am_C := match st with
  | .null :: r => k0 r
  | .ref _ :: r => k1 r
  | _ => none
def am_ldi (lv : am_L) (k : Nat) (g : Value → Option am_C) : Option am_C := match am_lk lv k with
  | some (.int x) => g (.int x)
  | _ => none
def am_ldl (lv : am_L) (k : Nat) (g : Value → Option am_C) : Option am_C := match am_lk lv k with
  | some (.long x) => g (.long x)
  | _ => none
def am_lda (lv : am_L) (k : Nat) (g : Value → Option am_C) : Option am_C := match am_lk lv k with
  | some (.ref x) => g (.ref x)
  | some .null => g .null
  | _ => none
def am_inc (lv : am_L) (k : Nat) (n : Int) (g : am_L → Option am_C) : Option am_C := match am_lk lv k with
  | some (.int x) => g (am_s1 lv k (.int (x + Int32.ofInt n)))
  | _ => none
/-- an int array's contents (type number t), an array of longs', of references' -/
def am_ai (E : am_E) (t : Nat) (i : Int32) (g : Nat → (Nat → Int32) → Option am_C) : Option am_C := match E with
  | .inl (u, n, .inl f) => if u = t then (if i < 0 ∨ n ≤ i.toNatClampNeg then none else g n f) else none
  | _ => none
def am_al (E : am_E) (t : Nat) (i : Int32) (g : Nat → (Nat → Int64) → Option am_C) : Option am_C := match E with
  | .inl (u, n, .inr (.inl f)) => if u = t then (if i < 0 ∨ n ≤ i.toNatClampNeg then none else g n f) else none
  | _ => none
def am_ab (E : am_E) (i : Int32) (g : Nat → Nat → (Nat → Int32) → Option am_C) : Option am_C := match E with
  | .inl (u, n, .inl f) => if u = 3 then (if i < 0 ∨ n ≤ i.toNatClampNeg then none else g u n f) else none
  | _ => none
def am_aq (E : am_E) (i : Int32) (g : Nat → (Nat → Option Nat) → Option am_C) : Option am_C := match E with
  | .inl (u, n, .inr (.inr (.inr (.inr f)))) => if 4 ≤ u then (if i < 0 ∨ n ≤ i.toNatClampNeg then none else g n f) else none
  | _ => none
def am_al0 (E : am_E) (g : Nat → Option am_C) : Option am_C := match E with
  | .inl (_, n, _) => g n
  | _ => none
def am_ob (E : am_E) (ci : Nat) (g : List Value → Option am_C) : Option am_C := match E with
  | .inr (c, fs) => if c = ci then g fs else none
  | _ => none
def am_fd (fs : List Value) (k : Nat) (g : Value → Option am_C) : Option am_C := match fs[k]? with
  | some v => g v
  | none => none
/-- a value fits a kind of field: 0 int, 1 long, 2 a reference, 3 boolean -/
def am_ft (k : Nat) (v : Value) : Bool := match k, v with
  | 0, .int _ => true
  | 1, .long _ => true
  | 2, .ref _ => true
  | 2, .null => true
  | 3, .int x => x == 0 || x == 1
  | _, _ => false
def am_br (c : ClassFile.Cond) (x y : Int32) (a b : Option am_C) : Option am_C := match c with
  | .eq => if x = y then a else b
  | .ne => if x = y then b else a
  | .lt => if x < y then a else b
  | .ge => if y ≤ x then a else b
  | .gt => if y < x then a else b
  | .le => if x ≤ y then a else b
def am_tg (l : List Nat) (k : Nat) (g : Nat → Option am_C) : Option am_C := match l[k]? with
  | some t => g t
  | none => none
def am_zero (t : Nat) : (Nat → Int32) ⊕ (Nat → Int64) ⊕ (Nat → UInt32) ⊕ (Nat → UInt64) ⊕ (Nat → Option Nat) := match t with
  | 1 => .inr (.inl (fun _ => 0))
  | _ => .inl (fun _ => 0)
/-- the rows of an instruction that is no call and no return; df: the fields of a new object of a class -/
def am_next (df : Nat → List Value) (e : am_I) (j : Nat) (lv : am_L) (st : List Value) (h : am_H) : Option am_C :=
  match am_op e with
  | .iconst n => some (j + 1, lv, .int (Int32.ofInt n) :: st, h)
  | .bipush n => some (j + 1, lv, .int (Int8.ofInt n).toInt32 :: st, h)
  | .sipush n => some (j + 1, lv, .int (Int16.ofInt n).toInt32 :: st, h)
  | .lconst _ => some (j + 1, lv, .long (Int64.ofNat (am_a e)) :: st, h)
  | .ldc _ => some (j + 1, lv, .int (Int32.ofNat (am_a e)) :: st, h)
  | .ldc_w _ => some (j + 1, lv, .int (Int32.ofNat (am_a e)) :: st, h)
  | .ldc2_w _ => some (j + 1, lv, .long (Int64.ofNat (am_a e)) :: st, h)
  | .aconst_null => some (j + 1, lv, .null :: st, h)
  | .iload_n _ => am_ldi lv (am_a e) (fun v => some (j + 1, lv, v :: st, h))
  | .iload _ => am_ldi lv (am_a e) (fun v => some (j + 1, lv, v :: st, h))
  | .lload_n _ => am_ldl lv (am_a e) (fun v => some (j + 1, lv, v :: st, h))
  | .lload _ => am_ldl lv (am_a e) (fun v => some (j + 1, lv, v :: st, h))
  | .aload_n _ => am_lda lv (am_a e) (fun v => some (j + 1, lv, v :: st, h))
  | .aload _ => am_lda lv (am_a e) (fun v => some (j + 1, lv, v :: st, h))
  | .istore_n _ => am_i1 st (fun x r => some (j + 1, am_s1 lv (am_a e) (.int x), r, h))
  | .istore _ => am_i1 st (fun x r => some (j + 1, am_s1 lv (am_a e) (.int x), r, h))
  | .lstore_n _ => am_l1 st (fun x r => some (j + 1, am_s2 lv (am_a e) (.long x), r, h))
  | .lstore _ => am_l1 st (fun x r => some (j + 1, am_s2 lv (am_a e) (.long x), r, h))
  | .astore_n _ => am_r1 st (fun x r => some (j + 1, am_s1 lv (am_a e) (.ref x), r, h))
  | .astore _ => am_r1 st (fun x r => some (j + 1, am_s1 lv (am_a e) (.ref x), r, h))
  | .iinc k n => am_inc lv k n (fun l => some (j + 1, l, st, h))
  | .iadd => am_i2 st (fun x y r => some (j + 1, lv, .int (x + y) :: r, h))
  | .isub => am_i2 st (fun x y r => some (j + 1, lv, .int (x - y) :: r, h))
  | .imul => am_i2 st (fun x y r => some (j + 1, lv, .int (x * y) :: r, h))
  | .iand => am_i2 st (fun x y r => some (j + 1, lv, .int (x &&& y) :: r, h))
  | .ior => am_i2 st (fun x y r => some (j + 1, lv, .int (x ||| y) :: r, h))
  | .ixor => am_i2 st (fun x y r => some (j + 1, lv, .int (x ^^^ y) :: r, h))
  | .idiv => am_i2 st (fun x y r => if y = 0 then none else some (j + 1, lv, .int (x / y) :: r, h))
  | .irem => am_i2 st (fun x y r => if y = 0 then none else some (j + 1, lv, .int (x - x / y * y) :: r, h))
  | .ineg => am_i1 st (fun x r => some (j + 1, lv, .int (-x) :: r, h))
  | .ishl => am_i2 st (fun x y r => some (j + 1, lv, .int (x <<< (y &&& 31)) :: r, h))
  | .ishr => am_i2 st (fun x y r => some (j + 1, lv, .int (x >>> (y &&& 31)) :: r, h))
  | .iushr => am_i2 st (fun x y r => some (j + 1, lv, .int (x.toUInt32 >>> (y.toUInt32 &&& Int32.toUInt32 31)).toInt32 :: r, h))
  | .ladd => am_l2 st (fun x y r => some (j + 1, lv, .long (x + y) :: r, h))
  | .lsub => am_l2 st (fun x y r => some (j + 1, lv, .long (x - y) :: r, h))
  | .lmul => am_l2 st (fun x y r => some (j + 1, lv, .long (x * y) :: r, h))
  | .land => am_l2 st (fun x y r => some (j + 1, lv, .long (x &&& y) :: r, h))
  | .lor => am_l2 st (fun x y r => some (j + 1, lv, .long (x ||| y) :: r, h))
  | .lxor => am_l2 st (fun x y r => some (j + 1, lv, .long (x ^^^ y) :: r, h))
  | .lshl => am_li st (fun x y r => some (j + 1, lv, .long (x <<< (y.toInt64 &&& 63)) :: r, h))
  | .lshr => am_li st (fun x y r => some (j + 1, lv, .long (x >>> (y.toInt64 &&& 63)) :: r, h))
  | .lushr => am_li st (fun x y r => some (j + 1, lv, .long (x.toUInt64 >>> (y.toInt64.toUInt64 &&& Int64.toUInt64 63)).toInt64 :: r, h))
  | .lcmp => am_l2 st (fun x y r => some (j + 1, lv, .int (lg_cmp x y) :: r, h))
  | .i2l => am_i1 st (fun x r => some (j + 1, lv, .long x.toInt64 :: r, h))
  | .l2i => am_l1 st (fun x r => some (j + 1, lv, .int x.toInt32 :: r, h))
  | .i2b => am_i1 st (fun x r => some (j + 1, lv, .int x.toInt8.toInt32 :: r, h))
  | .dup => am_v1 st (fun v r => if v.category = 1 then some (j + 1, lv, v :: v :: r, h) else none)
  | .pop => am_v1 st (fun v r => if v.category = 1 then some (j + 1, lv, r, h) else none)
  | .dup2 => am_v2 st (fun v w r => if v.category = 1 ∧ w.category = 1 then some (j + 1, lv, v :: w :: v :: w :: r, h) else none)
  | .dup_x1 => am_v2 st (fun v w r => if v.category = 1 ∧ w.category = 1 then some (j + 1, lv, v :: w :: v :: r, h) else none)
  | .ifCond c _ => am_i1 st (fun x r => am_br c x 0 (some (am_a e, lv, r, h)) (some (j + 1, lv, r, h)))
  | .if_icmp c _ => am_i2 st (fun x y r => am_br c x y (some (am_a e, lv, r, h)) (some (j + 1, lv, r, h)))
  | .goto _ => some (am_a e, lv, st, h)
  | .tableswitch _ lo hi _ => am_i1 st (fun x r => if x.toInt < lo ∨ hi < x.toInt then some (am_a e, lv, r, h) else am_tg (am_t e) (x.toInt - lo).toNat (fun t => some (t, lv, r, h)))
  | .ifnull _ => am_nl st (fun r => some (am_a e, lv, r, h)) (fun r => some (j + 1, lv, r, h))
  | .ifnonnull _ => am_nl st (fun r => some (j + 1, lv, r, h)) (fun r => some (am_a e, lv, r, h))
  | .getfield _ => am_r1 st (fun x r => am_ob (h.1 x) (am_a e) (fun fs => am_fd fs (am_b e) (fun v => some (j + 1, lv, v :: r, h))))
  | .putfield _ => am_vr st (fun v x r => am_ob (h.1 x) (am_a e) (fun fs => if am_b e < fs.length ∧ am_ft (am_d e) v = true then some (j + 1, lv, r, am_put h x (.inr (am_a e, fs.set (am_b e) v))) else none))
  | .iaload => am_ir st (fun i x r => am_ai (h.1 x) 0 i (fun _ f => some (j + 1, lv, .int (f i.toNatClampNeg) :: r, h)))
  | .baload => am_ir st (fun i x r => am_ab (h.1 x) i (fun _ _ f => some (j + 1, lv, .int (f i.toNatClampNeg) :: r, h)))
  | .laload => am_ir st (fun i x r => am_al (h.1 x) 1 i (fun _ f => some (j + 1, lv, .long (f i.toNatClampNeg) :: r, h)))
  | .aaload => am_ir st (fun i x r => am_aq (h.1 x) i (fun _ f => some (j + 1, lv, va_rf (f i.toNatClampNeg) :: r, h)))
  | .iastore => am_iir st (fun v i x r => am_ai (h.1 x) 0 i (fun n f => if x = 0 then none else some (j + 1, lv, r, am_put h x (.inl (0, n, .inl (upd f i.toNatClampNeg v))))))
  | .bastore => am_iir st (fun v i x r => am_ab (h.1 x) i (fun u n f => if x = 0 then none else some (j + 1, lv, r, am_put h x (.inl (u, n, .inl (upd f i.toNatClampNeg (vp_nar (if u = 2 then .byte else .boolean) v)))))))
  | .lastore => am_lir st (fun v i x r => am_al (h.1 x) 1 i (fun n f => if x = 0 then none else some (j + 1, lv, r, am_put h x (.inl (1, n, .inr (.inl (vp_updL f i.toNatClampNeg v)))))))
  | .arraylength => am_r1 st (fun x r => am_al0 (h.1 x) (fun n => some (j + 1, lv, .int (Int32.ofNat n) :: r, h)))
  | .newarray _ => am_i1 st (fun n r => if n < 0 ∨ 1000000 < n.toNatClampNeg then none else some (j + 1, lv, .ref h.2.1 :: r, am_mk h (.inl (am_a e, n.toNatClampNeg, am_zero (am_a e))) n.toNatClampNeg))
  | .multianewarray _ _ => am_i2 st (fun n k r => if n < 0 ∨ 1000 < n.toNatClampNeg ∨ k < 0 ∨ 1000000 < k.toNatClampNeg then none else some (j + 1, lv, .ref h.2.1 :: r, am_mk2 h (am_a e) (am_b e) n.toNatClampNeg k.toNatClampNeg (am_zero (am_b e))))
  | .new _ => some (j + 1, lv, .ref h.2.1 :: st, am_mk h (.inr (am_a e, df (am_a e))) (df (am_a e)).length)
  | .invokespecial _ => am_r1 st (fun _ r => if (r.map fun v => v.category).sum ≤ 8 then some (j + 1, lv, r, h) else none)
  | _ => none
/-- 0 goes on, 1 a return, 2 a call of a method with a receiver by its class, 3 a call without, 4 a constructor's -/
def am_kd (e : am_I) : Nat := match am_op e with
  | .ireturn => 1
  | .lreturn => 1
  | .areturn => 1
  | .return_ => 1
  | .invokevirtual _ => 2
  | .invokestatic _ => 3
  | .invokespecial _ => if am_a e = 100000 then 0 else 4
  | _ => 0
def am_ret (e : am_I) (st : List Value) : Option (Option Value) := match am_op e, st with
  | .ireturn, [.int x] => if am_ft (am_d e) (.int x) = true then some (some (.int x)) else none
  | .lreturn, [.long x] => some (some (.long x))
  | .areturn, [.ref x] => some (some (.ref x))
  | .areturn, [.null] => some (some .null)
  | .return_, [] => some none
  | _, _ => none
/-- a call can be made: its arguments stand there, its receiver is something of the class, what lies below is little -/
def am_can (e : am_I) (st : List Value) (h : am_H) : Bool := decide (am_b e ≤ st.length) && decide (((st.drop (am_b e)).map fun v => v.category).sum ≤ 8) && (match am_kd e with
  | 3 => true
  | k => match (st.take (am_b e)).reverse with
    | .ref x :: _ => k == 4 || (match h.1 x with
      | .inr (ci, _) => ci == am_c e
      | _ => false)
    | _ => false)
def am_loop (df : Nat → List Value) (orc : Nat → List Value → am_H → Option (Option Value × am_H)) (code : List am_I) : Nat → am_C → Option (Option Value × am_H)
  | 0, _ => none
  | k + 1, (j, lv, st, h) => match code[j]? with
    | none => none
    | some e => match am_kd e with
      | 0 => (am_next df e j lv st h).bind (am_loop df orc code k)
      | 1 => (am_ret e st).map (fun r => (r, h))
      | _ => if am_can e st h = true then (orc (am_a e) (st.take (am_b e)).reverse h).bind (fun q => am_loop df orc code k (j + 1, lv, q.1.toList ++ st.drop (am_b e), q.2)) else none
/-- a method: name, bytes, places for locals, what it returns, places of its words (its code, its class's start, its kind, its choice), its rows -/
abbrev am_M : Type := MethodName × ByteArray × Nat × Option FieldType × (Nat × Nat × Nat × Nat) × List am_I
def am_call (df : Nat → List Value) (MT : List am_M) : Nat → Nat → Nat → List Value → am_H → Option (Option Value × am_H)
  | 0, _, _, _, _ => none
  | d + 1, F, z, as, h => match MT[z]? with
    | none => none
    | some M => if (lg_sl as).length ≤ M.2.2.1 then am_loop df (am_call df MT d F) M.2.2.2.2.2 F (0, lv_args 0 as, [], h) else none
