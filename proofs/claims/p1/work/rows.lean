section
/-! THE MACHINE OVER NUMBERED CELLS. A cell is an array (number of its type, length, contents) or an object (number of its class, fields); cell 0 is the script; cells come one behind another. A method's code is a list of rows (pc, length, instruction, four resolved numbers, a place in the words). -/
abbrev am_E : Type := (Nat × vp_A) ⊕ (Nat × List Value)
abbrev am_H : Type := (Nat → am_E) × Nat × Nat
abbrev am_L : Type := List (Nat × Value)
abbrev am_C : Type := Nat × am_L × List Value × am_H
abbrev am_I : Type := Nat × Nat × Instr × Nat × Nat × Nat × Nat × Nat
abbrev am_pc (e : am_I) : Nat := e.1
abbrev am_len (e : am_I) : Nat := e.2.1
abbrev am_op (e : am_I) : Instr := e.2.2.1
abbrev am_a (e : am_I) : Nat := e.2.2.2.1
abbrev am_b (e : am_I) : Nat := e.2.2.2.2.1
abbrev am_c (e : am_I) : Nat := e.2.2.2.2.2.1
abbrev am_d (e : am_I) : Nat := e.2.2.2.2.2.2.1
abbrev am_q (e : am_I) : Nat := e.2.2.2.2.2.2.2
def am_z : am_E := .inr (1000000, [])
def am_put (h : am_H) (a : Nat) (e : am_E) : am_H := (va_up h.1 a e, h.2)
def am_mk (h : am_H) (e : am_E) (k : Nat) : am_H := (va_up h.1 h.2.1 e, h.2.1 + 1, h.2.2 + k)
/-- n rows of k places behind their outer array -/
def am_mk2 (h : am_H) (t u n k : Nat) (x : (Nat → Int32) ⊕ (Nat → Int64) ⊕ (Nat → UInt32) ⊕ (Nat → UInt64) ⊕ (Nat → Option Nat)) : am_H :=
  (fun q => if q = h.2.1 then .inl (t, n, .inr (.inr (.inr (.inr (fun i => if i < n then some (h.2.1 + 1 + i) else none))))) else if h.2.1 < q ∧ q ≤ h.2.1 + n then .inl (u, k, x) else h.1 q, h.2.1 + 1 + n, h.2.2 + n + n * k)
def am_lk (lv : am_L) (k : Nat) : Option Value := (lv.find? (fun q => q.1 == k)).map (fun q => q.2)
def am_s1 (lv : am_L) (k : Nat) (v : Value) : am_L := (k, v) :: lv.filter (fun q => !(q.1 == k) && !(q.1 + 1 == k && q.2.category == 2))
def am_s2 (lv : am_L) (k : Nat) (v : Value) : am_L := (k, v) :: lv.filter (fun q => !(q.1 == k) && (!(q.1 == k + 1) && !(q.1 + 1 == k && q.2.category == 2)))
def am_i1 (st : List Value) (k : Int32 → List Value → Option am_C) : Option am_C := match st with
  | .int x :: r => k x r
  | _ => none
def am_i2 (st : List Value) (k : Int32 → Int32 → List Value → Option am_C) : Option am_C := match st with
  | .int y :: .int x :: r => k x y r
  | _ => none
def am_l1 (st : List Value) (k : Int64 → List Value → Option am_C) : Option am_C := match st with
  | .long x :: r => k x r
  | _ => none
def am_l2 (st : List Value) (k : Int64 → Int64 → List Value → Option am_C) : Option am_C := match st with
  | .long y :: .long x :: r => k x y r
  | _ => none
def am_li (st : List Value) (k : Int64 → Int32 → List Value → Option am_C) : Option am_C := match st with
  | .int y :: .long x :: r => k x y r
  | _ => none
def am_r1 (st : List Value) (k : Nat → List Value → Option am_C) : Option am_C := match st with
  | .ref x :: r => k x r
  | _ => none
def am_ir (st : List Value) (k : Int32 → Nat → List Value → Option am_C) : Option am_C := match st with
  | .int i :: .ref x :: r => k i x r
  | _ => none
def am_vr (st : List Value) (k : Value → Nat → List Value → Option am_C) : Option am_C := match st with
  | v :: .ref x :: r => k v x r
  | _ => none
def am_iir (st : List Value) (k : Int32 → Int32 → Nat → List Value → Option am_C) : Option am_C := match st with
  | .int v :: .int i :: .ref x :: r => k v i x r
  | _ => none
def am_lir (st : List Value) (k : Int64 → Int32 → Nat → List Value → Option am_C) : Option am_C := match st with
  | .long v :: .int i :: .ref x :: r => k v i x r
  | _ => none
def am_v1 (st : List Value) (k : Value → List Value → Option am_C) : Option am_C := match st with
  | v :: r => k v r
  | _ => none
def am_v2 (st : List Value) (k : Value → Value → List Value → Option am_C) : Option am_C := match st with
  | v :: w :: r => k v w r
  | _ => none
/-- where a reference is nothing, and where it is something -/
def am_nl (st : List Value) (k0 : List Value → Option am_C) (k1 : List Value → Option am_C) : Option am_C := match st with
  | .null :: r => k0 r
  | .ref _ :: r => k1 r
  | _ => none
def am_ldi (lv : am_L) (k : Nat) (g : Value → Option am_C) : Option am_C := match am_lk lv k with
  | some (.int x) => g (.int x)
  | _ => none
def am_ldl (lv : am_L) (k : Nat) (g : Value → Option am_C) : Option am_C := match am_lk lv k with
  | some (.long x) => g (.long x)
  | _ => none
def am_lda (lv : am_L) (k : Nat) (g : Value → Option am_C) : Option am_C := match am_lk lv k with
  | some (.ref x) => g (.ref x)
  | some .null => g .null
  | _ => none
def am_inc (lv : am_L) (k : Nat) (n : Int) (g : am_L → Option am_C) : Option am_C := match am_lk lv k with
  | some (.int x) => g (am_s1 lv k (.int (x + Int32.ofInt n)))
  | _ => none
/-- an int array's contents (type number t), an array of longs', of references' -/
def am_ai (E : am_E) (t : Nat) (i : Int32) (g : Nat → (Nat → Int32) → Option am_C) : Option am_C := match E with
  | .inl (u, n, .inl f) => if u = t then (if i < 0 ∨ n ≤ i.toNatClampNeg then none else g n f) else none
  | _ => none
def am_al (E : am_E) (t : Nat) (i : Int32) (g : Nat → (Nat → Int64) → Option am_C) : Option am_C := match E with
  | .inl (u, n, .inr (.inl f)) => if u = t then (if i < 0 ∨ n ≤ i.toNatClampNeg then none else g n f) else none
  | _ => none
def am_ab (E : am_E) (i : Int32) (g : Nat → Nat → (Nat → Int32) → Option am_C) : Option am_C := match E with
  | .inl (u, n, .inl f) => if u = 2 ∨ u = 3 then (if i < 0 ∨ n ≤ i.toNatClampNeg then none else g u n f) else none
  | _ => none
def am_aq (E : am_E) (i : Int32) (g : Nat → (Nat → Option Nat) → Option am_C) : Option am_C := match E with
  | .inl (u, n, .inr (.inr (.inr (.inr f)))) => if 4 ≤ u then (if i < 0 ∨ n ≤ i.toNatClampNeg then none else g n f) else none
  | _ => none
def am_al0 (E : am_E) (g : Nat → Option am_C) : Option am_C := match E with
  | .inl (_, n, _) => g n
  | _ => none
def am_ob (E : am_E) (ci : Nat) (g : List Value → Option am_C) : Option am_C := match E with
  | .inr (c, fs) => if c = ci then g fs else none
  | _ => none
def am_fd (fs : List Value) (k : Nat) (g : Value → Option am_C) : Option am_C := match fs[k]? with
  | some v => g v
  | none => none
/-- a value fits a kind of field: 0 int, 1 long, 2 a reference, 3 boolean -/
def am_ft (k : Nat) (v : Value) : Bool := match k, v with
  | 0, .int _ => true
  | 1, .long _ => true
  | 2, .ref _ => true
  | 2, .null => true
  | 3, .int x => x == 0 || x == 1
  | _, _ => false
def am_br (c : ClassFile.Cond) (x y : Int32) (a b : Option am_C) : Option am_C := match c with
  | .eq => if x = y then a else b
  | .ne => if x = y then b else a
  | .lt => if x < y then a else b
  | .ge => if y ≤ x then a else b
  | .gt => if y < x then a else b
  | .le => if x ≤ y then a else b
def am_zero (t : Nat) : (Nat → Int32) ⊕ (Nat → Int64) ⊕ (Nat → UInt32) ⊕ (Nat → UInt64) ⊕ (Nat → Option Nat) := match t with
  | 1 => .inr (.inl (fun _ => 0))
  | _ => .inl (fun _ => 0)
/-- the rows of an instruction that is no call and no return; df: the fields of a new object of a class -/
def am_next (df : Nat → List Value) (e : am_I) (j : Nat) (lv : am_L) (st : List Value) (h : am_H) : Option am_C :=
  match am_op e with
  | .iconst n => some (j + 1, lv, .int (Int32.ofInt n) :: st, h)
  | .bipush n => some (j + 1, lv, .int (Int8.ofInt n).toInt32 :: st, h)
  | .sipush n => some (j + 1, lv, .int (Int16.ofInt n).toInt32 :: st, h)
  | .lconst _ => some (j + 1, lv, .long (Int64.ofNat (am_a e)) :: st, h)
  | .ldc _ => some (j + 1, lv, .int (Int32.ofNat (am_a e)) :: st, h)
  | .ldc2_w _ => some (j + 1, lv, .long (Int64.ofNat (am_a e)) :: st, h)
  | .aconst_null => some (j + 1, lv, .null :: st, h)
  | .iload_n _ => am_ldi lv (am_a e) (fun v => some (j + 1, lv, v :: st, h))
  | .iload _ => am_ldi lv (am_a e) (fun v => some (j + 1, lv, v :: st, h))
  | .lload_n _ => am_ldl lv (am_a e) (fun v => some (j + 1, lv, v :: st, h))
  | .lload _ => am_ldl lv (am_a e) (fun v => some (j + 1, lv, v :: st, h))
  | .aload_n _ => am_lda lv (am_a e) (fun v => some (j + 1, lv, v :: st, h))
  | .aload _ => am_lda lv (am_a e) (fun v => some (j + 1, lv, v :: st, h))
  | .istore_n _ => am_i1 st (fun x r => some (j + 1, am_s1 lv (am_a e) (.int x), r, h))
  | .istore _ => am_i1 st (fun x r => some (j + 1, am_s1 lv (am_a e) (.int x), r, h))
  | .lstore_n _ => am_l1 st (fun x r => some (j + 1, am_s2 lv (am_a e) (.long x), r, h))
  | .lstore _ => am_l1 st (fun x r => some (j + 1, am_s2 lv (am_a e) (.long x), r, h))
  | .astore_n _ => am_r1 st (fun x r => some (j + 1, am_s1 lv (am_a e) (.ref x), r, h))
  | .astore _ => am_r1 st (fun x r => some (j + 1, am_s1 lv (am_a e) (.ref x), r, h))
  | .iinc k n => am_inc lv k n (fun l => some (j + 1, l, st, h))
  | .iadd => am_i2 st (fun x y r => some (j + 1, lv, .int (x + y) :: r, h))
  | .isub => am_i2 st (fun x y r => some (j + 1, lv, .int (x - y) :: r, h))
  | .imul => am_i2 st (fun x y r => some (j + 1, lv, .int (x * y) :: r, h))
  | .iand => am_i2 st (fun x y r => some (j + 1, lv, .int (x &&& y) :: r, h))
  | .ior => am_i2 st (fun x y r => some (j + 1, lv, .int (x ||| y) :: r, h))
  | .ixor => am_i2 st (fun x y r => some (j + 1, lv, .int (x ^^^ y) :: r, h))
  | .idiv => am_i2 st (fun x y r => if y = 0 then none else some (j + 1, lv, .int (x / y) :: r, h))
  | .irem => am_i2 st (fun x y r => if y = 0 then none else some (j + 1, lv, .int (x - x / y * y) :: r, h))
  | .ineg => am_i1 st (fun x r => some (j + 1, lv, .int (-x) :: r, h))
  | .ishl => am_i2 st (fun x y r => some (j + 1, lv, .int (x <<< (y &&& 31)) :: r, h))
  | .ishr => am_i2 st (fun x y r => some (j + 1, lv, .int (x >>> (y &&& 31)) :: r, h))
  | .iushr => am_i2 st (fun x y r => some (j + 1, lv, .int (x.toUInt32 >>> (y.toUInt32 &&& Int32.toUInt32 31)).toInt32 :: r, h))
  | .ladd => am_l2 st (fun x y r => some (j + 1, lv, .long (x + y) :: r, h))
  | .lsub => am_l2 st (fun x y r => some (j + 1, lv, .long (x - y) :: r, h))
  | .lmul => am_l2 st (fun x y r => some (j + 1, lv, .long (x * y) :: r, h))
  | .land => am_l2 st (fun x y r => some (j + 1, lv, .long (x &&& y) :: r, h))
  | .lor => am_l2 st (fun x y r => some (j + 1, lv, .long (x ||| y) :: r, h))
  | .lxor => am_l2 st (fun x y r => some (j + 1, lv, .long (x ^^^ y) :: r, h))
  | .lshl => am_li st (fun x y r => some (j + 1, lv, .long (x <<< (y.toInt64 &&& 63)) :: r, h))
  | .lshr => am_li st (fun x y r => some (j + 1, lv, .long (x >>> (y.toInt64 &&& 63)) :: r, h))
  | .lushr => am_li st (fun x y r => some (j + 1, lv, .long (x.toUInt64 >>> (y.toInt64.toUInt64 &&& Int64.toUInt64 63)).toInt64 :: r, h))
  | .lcmp => am_l2 st (fun x y r => some (j + 1, lv, .int (lg_cmp x y) :: r, h))
  | .i2l => am_i1 st (fun x r => some (j + 1, lv, .long x.toInt64 :: r, h))
  | .l2i => am_l1 st (fun x r => some (j + 1, lv, .int x.toInt32 :: r, h))
  | .i2b => am_i1 st (fun x r => some (j + 1, lv, .int x.toInt8.toInt32 :: r, h))
  | .dup => am_v1 st (fun v r => if v.category = 1 then some (j + 1, lv, v :: v :: r, h) else none)
  | .pop => am_v1 st (fun v r => if v.category = 1 then some (j + 1, lv, r, h) else none)
  | .dup2 => am_v2 st (fun v w r => if v.category = 1 ∧ w.category = 1 then some (j + 1, lv, v :: w :: v :: w :: r, h) else none)
  | .dup_x1 => am_v2 st (fun v w r => if v.category = 1 ∧ w.category = 1 then some (j + 1, lv, v :: w :: v :: r, h) else none)
  | .ifCond c _ => am_i1 st (fun x r => am_br c x 0 (some (am_a e, lv, r, h)) (some (j + 1, lv, r, h)))
  | .if_icmp c _ => am_i2 st (fun x y r => am_br c x y (some (am_a e, lv, r, h)) (some (j + 1, lv, r, h)))
  | .goto _ => some (am_a e, lv, st, h)
  | .ifnull _ => am_nl st (fun r => some (am_a e, lv, r, h)) (fun r => some (j + 1, lv, r, h))
  | .ifnonnull _ => am_nl st (fun r => some (j + 1, lv, r, h)) (fun r => some (am_a e, lv, r, h))
  | .getfield _ => am_r1 st (fun x r => am_ob (h.1 x) (am_a e) (fun fs => am_fd fs (am_b e) (fun v => some (j + 1, lv, v :: r, h))))
  | .putfield _ => am_vr st (fun v x r => am_ob (h.1 x) (am_a e) (fun fs => if am_b e < fs.length ∧ am_ft (am_d e) v = true then some (j + 1, lv, r, am_put h x (.inr (am_a e, fs.set (am_b e) v))) else none))
  | .iaload => am_ir st (fun i x r => am_ai (h.1 x) 0 i (fun _ f => some (j + 1, lv, .int (f i.toNatClampNeg) :: r, h)))
  | .baload => am_ir st (fun i x r => am_ab (h.1 x) i (fun _ _ f => some (j + 1, lv, .int (f i.toNatClampNeg) :: r, h)))
  | .laload => am_ir st (fun i x r => am_al (h.1 x) 1 i (fun _ f => some (j + 1, lv, .long (f i.toNatClampNeg) :: r, h)))
  | .aaload => am_ir st (fun i x r => am_aq (h.1 x) i (fun _ f => some (j + 1, lv, va_rf (f i.toNatClampNeg) :: r, h)))
  | .iastore => am_iir st (fun v i x r => am_ai (h.1 x) 0 i (fun n f => if x = 0 then none else some (j + 1, lv, r, am_put h x (.inl (0, n, .inl (upd f i.toNatClampNeg v))))))
  | .bastore => am_iir st (fun v i x r => am_ab (h.1 x) i (fun u n f => if x = 0 then none else some (j + 1, lv, r, am_put h x (.inl (u, n, .inl (upd f i.toNatClampNeg (vp_nar (if u = 2 then .byte else .boolean) v)))))))
  | .lastore => am_lir st (fun v i x r => am_al (h.1 x) 1 i (fun n f => if x = 0 then none else some (j + 1, lv, r, am_put h x (.inl (1, n, .inr (.inl (vp_updL f i.toNatClampNeg v)))))))
  | .arraylength => am_r1 st (fun x r => am_al0 (h.1 x) (fun n => some (j + 1, lv, .int (Int32.ofNat n) :: r, h)))
  | .newarray _ => am_i1 st (fun n r => if n < 0 ∨ 1000000 < n.toNatClampNeg then none else some (j + 1, lv, .ref h.2.1 :: r, am_mk h (.inl (am_a e, n.toNatClampNeg, am_zero (am_a e))) n.toNatClampNeg))
  | .multianewarray _ _ => am_i2 st (fun n k r => if n < 0 ∨ 1000 < n.toNatClampNeg ∨ k < 0 ∨ 1000000 < k.toNatClampNeg then none else some (j + 1, lv, .ref h.2.1 :: r, am_mk2 h (am_a e) (am_b e) n.toNatClampNeg k.toNatClampNeg (am_zero (am_b e))))
  | .new _ => some (j + 1, lv, .ref h.2.1 :: st, am_mk h (.inr (am_a e, df (am_a e))) (df (am_a e)).length)
  | .invokespecial _ => am_r1 st (fun _ r => if (r.map fun v => v.category).sum ≤ 8 then some (j + 1, lv, r, h) else none)
  | _ => none
/-- 0 goes on, 1 a return, 2 a call of a method with a receiver by its class, 3 a call without, 4 a constructor's -/
def am_kd (e : am_I) : Nat := match am_op e with
  | .ireturn => 1
  | .lreturn => 1
  | .areturn => 1
  | .return_ => 1
  | .invokevirtual _ => 2
  | .invokestatic _ => 3
  | .invokespecial _ => if am_a e = 100000 then 0 else 4
  | _ => 0
def am_ret (e : am_I) (st : List Value) : Option (Option Value) := match am_op e, st with
  | .ireturn, [.int x] => if am_ft (am_d e) (.int x) = true then some (some (.int x)) else none
  | .lreturn, [.long x] => some (some (.long x))
  | .areturn, [.ref x] => some (some (.ref x))
  | .areturn, [.null] => some (some .null)
  | .return_, [] => some none
  | _, _ => none
/-- a call can be made: its arguments stand there, its receiver is something of the class, what lies below is little -/
def am_can (e : am_I) (st : List Value) (h : am_H) : Bool := decide (am_b e ≤ st.length) && decide (((st.drop (am_b e)).map fun v => v.category).sum ≤ 8) && (match am_kd e with
  | 3 => true
  | k => match (st.take (am_b e)).reverse with
    | .ref x :: _ => k == 4 || (match h.1 x with
      | .inr (ci, _) => ci == am_c e
      | _ => false)
    | _ => false)
def am_loop (df : Nat → List Value) (orc : Nat → List Value → am_H → Option (Option Value × am_H)) (code : List am_I) : Nat → am_C → Option (Option Value × am_H)
  | 0, _ => none
  | k + 1, (j, lv, st, h) => match code[j]? with
    | none => none
    | some e => match am_kd e with
      | 0 => (am_next df e j lv st h).bind (am_loop df orc code k)
      | 1 => (am_ret e st).map (fun r => (r, h))
      | _ => if am_can e st h = true then (orc (am_a e) (st.take (am_b e)).reverse h).bind (fun q => am_loop df orc code k (j + 1, lv, q.1.toList ++ st.drop (am_b e), q.2)) else none
/-- a method: name, bytes, places for locals, what it returns, places of its words (its code, its class's start, its kind, its choice), its rows -/
abbrev am_M : Type := MethodName × ByteArray × Nat × Option FieldType × (Nat × Nat × Nat × Nat) × List am_I
def am_call (df : Nat → List Value) (MT : List am_M) : Nat → Nat → Nat → List Value → am_H → Option (Option Value × am_H)
  | 0, _, _, _, _ => none
  | d + 1, F, z, as, h => match MT[z]? with
    | none => none
    | some M => if (lg_sl as).length ≤ M.2.2.1 then am_loop df (am_call df MT d F) M.2.2.2.2.2 F (0, lv_args 0 as, [], h) else none
end
section
/-! The numbered cells in the machine's heap: cell 0 at b (the script), cell a at c0 + a. -/
def am_ad (b c0 a : Nat) : Nat := if a = 0 then b else c0 + a
def am_r (b c0 : Nat) (v : Value) : Value := match v with
  | .ref a => .ref (am_ad b c0 a)
  | v => v
def am_ra (b c0 : Nat) (x : vp_A) : vp_A := match x with
  | (n, .inr (.inr (.inr (.inr f)))) => (n, .inr (.inr (.inr (.inr (fun j => (f j).map (am_ad b c0))))))
  | x => x
def am_rl (b c0 : Nat) (lv : am_L) : am_L := lv.map (fun q => (q.1, am_r b c0 q.2))
theorem am_r_cat (b c0 : Nat) (v : Value) : (am_r b c0 v).category = v.category := by cases v <;> rfl
theorem am_lk_in {lv : am_L} {k : Nat} {v : Value} (h : am_lk lv k = some v) : (k, v) ∈ lv := by
  unfold am_lk at h
  cases hf : lv.find? (fun q => q.1 == k) with
  | none => rw [hf] at h; cases h
  | some q =>
    rw [hf] at h
    have h1 := List.find?_some hf
    have h2 := List.mem_of_find?_eq_some hf
    obtain ⟨q1, q2⟩ := q
    simp only [Option.map_some, Option.some.injEq] at h
    simp only [beq_iff_eq] at h1
    subst h; subst h1
    exact h2
theorem am_ld {b c0 nL k : Nat} {ls : Array Slot} {lv : am_L} {v : Value} (h : lv_has ls nL (am_rl b c0 lv)) (hk : am_lk lv k = some v) : ls[k]? = some (.val (am_r b c0 v)) :=
  h.2.2 (k, am_r b c0 v) (List.mem_map.mpr ⟨(k, v), am_lk_in hk, rfl⟩)
theorem am_ldp {b c0 k : Nat} {lv : am_L} {v : Value} (hk : am_lk lv k = some v) : ∃ i : Nat, (am_rl b c0 lv)[i]? = some (k, am_r b c0 v) :=
  List.getElem?_of_mem (List.mem_map.mpr ⟨(k, v), am_lk_in hk, rfl⟩)
theorem am_rl_s1 (b c0 : Nat) (lv : am_L) (k : Nat) (v : Value) : (k, am_r b c0 v) :: (am_rl b c0 lv).filter (fun q => !(q.1 == k) && !(q.1 + 1 == k && q.2.category == 2)) = am_rl b c0 (am_s1 lv k v) := by
  simp only [am_rl, am_s1, List.map_cons, List.filter_map, Function.comp_def, am_r_cat]
theorem am_rl_s2 (b c0 : Nat) (lv : am_L) (k : Nat) (v : Value) : (k, am_r b c0 v) :: (am_rl b c0 lv).filter (fun q => !(q.1 == k) && (!(q.1 == k + 1) && !(q.1 + 1 == k && q.2.category == 2))) = am_rl b c0 (am_s2 lv k v) := by
  simp only [am_rl, am_s2, List.map_cons, List.filter_map, Function.comp_def, am_r_cat]
theorem am_rl_args (b c0 : Nat) : ∀ (vs : List Value) (i : Nat), am_rl b c0 (lv_args i vs) = lv_args i (vs.map (am_r b c0))
  | [], _ => rfl
  | v :: vs, i => by
    simp only [lv_args, am_rl, List.map_cons, am_r_cat]
    exact congrArg _ (am_rl_args b c0 vs _)
theorem am_sl_len (b c0 : Nat) : ∀ vs : List Value, (lg_sl (vs.map (am_r b c0))).length = (lg_sl vs).length
  | [] => rfl
  | v :: vs => by
    have ih := am_sl_len b c0 vs
    simp only [lg_sl, List.map_cons, List.flatMap_cons, List.length_append, am_r_cat] at ih ⊢
    rw [ih]
    split <;> rfl
theorem am_cats (b c0 : Nat) (vs : List Value) : ((vs.map (am_r b c0)).map fun v => v.category).sum = (vs.map fun v => v.category).sum := by
  rw [List.map_map]
  congr 1
  exact List.map_congr_left (fun v _ => am_r_cat b c0 v)
def am_at (D : va_G) (cl : List vw_C) (tys : List (ClassId × FieldType)) (b c0 a : Nat) (E : am_E) (H : Heap) : Prop := match E with
  | .inl x => ∃ q : ClassId × FieldType, tys[x.1]? = some q ∧ H[c0 + a]? = some (vp_cell q.1 (am_ra b c0 x.2))
  | .inr o => va_at D cl (c0 + a, .inr (o.1, o.2.map (am_r b c0))) H
theorem am_at.kept {D : va_G} {cl : List vw_C} {tys : List (ClassId × FieldType)} {b c0 a : Nat} {E : am_E} {H H1 : Heap} (h : am_at D cl tys b c0 a E H) (hq : H1[c0 + a]? = H[c0 + a]?) : am_at D cl tys b c0 a E H1 := by
  cases E with
  | inl x =>
    obtain ⟨q, h1, h2⟩ := h
    exact ⟨q, h1, hq.trans h2⟩
  | inr o => exact va_at.kept (q := (c0 + a, .inr (o.1, o.2.map (am_r b c0)))) h hq
def am_R (D : va_G) (cl : List vw_C) (tys : List (ClassId × FieldType)) (b c0 L : Nat) (xs : Nat → Int32) (U : State) (h : am_H) (H : Heap) : Prop :=
  (H.size = c0 + h.2.1 ∧ 0 < h.2.1 ∧ b ≤ c0) ∧ (h.1 0 = .inl (0, L, .inl xs) ∧ va_X b L xs U H) ∧ va_K D cl tys U ∧ (∀ a, h.2.1 ≤ a → h.1 a = am_z) ∧ ∀ a, 0 < a → a < h.2.1 → am_at D cl tys b c0 a (h.1 a) H
theorem am_R.moved {D : va_G} {cl : List vw_C} {tys : List (ClassId × FieldType)} {b c0 L : Nat} {xs : Nat → Int32} {u U : State} {h : am_H} {H : Heap} (hvm : u.vm.Alike U.vm) (hR : am_R D cl tys b c0 L xs u h H) : am_R D cl tys b c0 L xs U h H := by
  obtain ⟨h1, ⟨h2, h3⟩, h4, h5⟩ := hR
  exact ⟨h1, ⟨h2, va_X.moved hvm h3⟩, va_K.moved hvm h4, h5⟩
theorem am_R.put {D : va_G} {cl : List vw_C} {tys : List (ClassId × FieldType)} {b c0 L : Nat} {xs : Nat → Int32} {U : State} {h : am_H} {H H1 : Heap} {a : Nat} {E : am_E} (hR : am_R D cl tys b c0 L xs U h H) (h0 : 0 < a) (ha : a < h.2.1) (hz : H1.size = H.size) (hq : ∀ q, q ≠ c0 + a → H1[q]? = H[q]?) (hE : am_at D cl tys b c0 a E H1) : am_R D cl tys b c0 L xs U (am_put h a E) H1 := by
  obtain ⟨⟨h1, h1a, h1b⟩, ⟨h2, h3⟩, h4, h5, h6⟩ := hR
  refine ⟨⟨hz.trans h1, h1a, h1b⟩, ⟨?_, va_X.kept h3 (hq b (by omega))⟩, h4, fun x hx => ?_, fun x hx0 hx => ?_⟩
  · show va_up h.1 a E 0 = _
    rw [va_up, if_neg (by omega)]
    exact h2
  · show va_up h.1 a E x = _
    have hx' : h.2.1 ≤ x := hx
    rw [va_up, if_neg (by omega)]
    exact h5 x hx'
  · show am_at D cl tys b c0 x (va_up h.1 a E x) H1
    by_cases hxa : x = a
    · subst hxa
      rw [va_up, if_pos rfl]
      exact hE
    · rw [va_up, if_neg hxa]
      exact (h6 x hx0 hx).kept (hq _ (by omega))
theorem am_R.mk {D : va_G} {cl : List vw_C} {tys : List (ClassId × FieldType)} {b c0 L : Nat} {xs : Nat → Int32} {U : State} {h : am_H} {H H1 : Heap} {E : am_E} {k : Nat} (hR : am_R D cl tys b c0 L xs U h H) (hz : H1.size = H.size + 1) (hq : ∀ q, q < H.size → H1[q]? = H[q]?) (hE : am_at D cl tys b c0 h.2.1 E H1) : am_R D cl tys b c0 L xs U (am_mk h E k) H1 := by
  obtain ⟨⟨h1, h1a, h1b⟩, ⟨h2, h3⟩, h4, h5, h6⟩ := hR
  refine ⟨⟨?_, Nat.succ_pos _, h1b⟩, ⟨?_, va_X.kept h3 (hq b (by omega))⟩, h4, fun x hx => ?_, fun x hx0 hx => ?_⟩
  · show H1.size = c0 + (h.2.1 + 1)
    omega
  · show va_up h.1 h.2.1 E 0 = _
    rw [va_up, if_neg (by omega)]
    exact h2
  · show va_up h.1 h.2.1 E x = _
    have hx' : h.2.1 + 1 ≤ x := hx
    rw [va_up, if_neg (by omega)]
    exact h5 x (by omega)
  · show am_at D cl tys b c0 x (va_up h.1 h.2.1 E x) H1
    have hx' : x < h.2.1 + 1 := hx
    by_cases hxa : x = h.2.1
    · subst hxa
      rw [va_up, if_pos rfl]
      exact hE
    · rw [va_up, if_neg hxa]
      exact (h6 x hx0 (by omega)).kept (hq _ (by omega))
theorem am_R.mk2 {D : va_G} {cl : List vw_C} {tys : List (ClassId × FieldType)} {b c0 L : Nat} {xs : Nat → Int32} {U : State} {h : am_H} {H H1 : Heap} {t u n k : Nat} {x : (Nat → Int32) ⊕ (Nat → Int64) ⊕ (Nat → UInt32) ⊕ (Nat → UInt64) ⊕ (Nat → Option Nat)} (hR : am_R D cl tys b c0 L xs U h H) (hz : H1.size = H.size + 1 + n) (hq : ∀ q, q < H.size → H1[q]? = H[q]?)
    (hE : am_at D cl tys b c0 h.2.1 (.inl (t, n, .inr (.inr (.inr (.inr (fun i => if i < n then some (h.2.1 + 1 + i) else none)))))) H1) (hF : ∀ i, i < n → am_at D cl tys b c0 (h.2.1 + 1 + i) (.inl (u, k, x)) H1) : am_R D cl tys b c0 L xs U (am_mk2 h t u n k x) H1 := by
  obtain ⟨⟨h1, h1a, h1b⟩, ⟨h2, h3⟩, h4, h5, h6⟩ := hR
  refine ⟨⟨?_, ?_, h1b⟩, ⟨?_, va_X.kept h3 (hq b (by omega))⟩, h4, fun y hy => ?_, fun y hy0 hy => ?_⟩
  · show H1.size = c0 + (h.2.1 + 1 + n)
    omega
  · show 0 < h.2.1 + 1 + n
    omega
  · simp only [am_mk2]
    rw [if_neg (by omega), if_neg (by omega)]
    exact h2
  · have hy' : h.2.1 + 1 + n ≤ y := hy
    simp only [am_mk2]
    rw [if_neg (by omega), if_neg (by omega)]
    exact h5 y (by omega)
  · have hy' : y < h.2.1 + 1 + n := hy
    simp only [am_mk2]
    by_cases e1 : y = h.2.1
    · rw [if_pos e1]
      subst e1
      exact hE
    · rw [if_neg e1]
      by_cases e2 : h.2.1 < y ∧ y ≤ h.2.1 + n
      · rw [if_pos e2]
        have e3 := hF (y - (h.2.1 + 1)) (by omega)
        rw [show h.2.1 + 1 + (y - (h.2.1 + 1)) = y by omega] at e3
        exact e3
      · rw [if_neg e2]
        exact (h6 y hy0 (by omega)).kept (hq _ (by omega))
/-- what stands at a place of a method's run: the cells, the locals, what was written, what was made since h0 -/
def am_B (D : va_G) (cl : List vw_C) (tys : List (ClassId × FieldType)) (b c0 L : Nat) (xs : Nat → Int32) (s : State) (h0 : am_H) (nL : Nat) (h : am_H) (lv : am_L) (H : Heap) (locs : List Loc) (ls : Array Slot) (cells slots : Nat) : Prop :=
  am_R D cl tys b c0 L xs s h H ∧ lv_has ls nL (am_rl b c0 lv) ∧ (∀ q, q ≤ c0 → H[q]? = s.heap[q]?) ∧ (∀ x ∈ locs, c0 < x.base) ∧ h.2.1 = h0.2.1 + cells ∧ h.2.2 = h0.2.2 + slots
abbrev am_K (p : Program) (l : Launch) (e : Env) (R : Room) (s : State) (m : MethodId) (args : Array Value) (below : List Frame) (meth : Method) (c : Code) (Q : State → Prop) (D : va_G) (cl : List vw_C) (tys : List (ClassId × FieldType)) (b c0 L : Nat) (xs : Nat → Int32) (h0 : am_H) (nL : Nat) (pcs : Nat → Nat) (x : am_C) : Prop :=
  ∀ (H : Heap) (locs : List Loc) (ls : Array Slot) (cells slots : Nat), am_B D cl tys b c0 L xs s h0 nL x.2.2.2 x.2.1 H locs ls cells slots → W p l e R s m args below meth c H locs cells slots Q (F0 m (pcs x.1) ls (x.2.2.1.map (am_r b c0)))
theorem am_B.put {D : va_G} {cl : List vw_C} {tys : List (ClassId × FieldType)} {b c0 L : Nat} {xs : Nat → Int32} {s : State} {h0 h : am_H} {nL : Nat} {lv : am_L} {H H1 : Heap} {locs : List Loc} {ls : Array Slot} {cells slots a k : Nat} {E : am_E} (hB : am_B D cl tys b c0 L xs s h0 nL h lv H locs ls cells slots) (ha0 : 0 < a) (ha : a < h.2.1) (hz : H1.size = H.size) (hq : ∀ q, q ≠ c0 + a → H1[q]? = H[q]?) (hE : am_at D cl tys b c0 a E H1) : am_B D cl tys b c0 L xs s h0 nL (am_put h a E) lv H1 (locs ++ [⟨c0 + a, k⟩]) ls cells slots := by
  obtain ⟨h1, h2, h3, h4, h5, h6⟩ := hB
  refine ⟨h1.put ha0 ha hz hq hE, h2, fun q hq' => (hq q (by omega)).trans (h3 q hq'), fun x hx => ?_, h5, h6⟩
  rcases List.mem_append.mp hx with hx | hx
  · exact h4 x hx
  · rw [List.mem_singleton.mp hx]
    show c0 < c0 + a
    omega
/-- a cell that is something lies there -/
theorem am_R.inl {D : va_G} {cl : List vw_C} {tys : List (ClassId × FieldType)} {b c0 L : Nat} {xs : Nat → Int32} {U : State} {h : am_H} {H : Heap} {a : Nat} {x : Nat × vp_A} (hR : am_R D cl tys b c0 L xs U h H) (ha : h.1 a = .inl x) (h0 : a ≠ 0) : (0 < a ∧ a < h.2.1) ∧ ∃ q : ClassId × FieldType, tys[x.1]? = some q ∧ H[c0 + a]? = some (vp_cell q.1 (am_ra b c0 x.2)) := by
  obtain ⟨-, -, -, h5, h6⟩ := hR
  have hlt : a < h.2.1 := by
    rcases Nat.lt_or_ge a h.2.1 with q | q
    · exact q
    · have := (h5 a q).symm.trans ha
      cases this
  have h7 := h6 a (by omega) hlt
  rw [ha] at h7
  exact ⟨⟨by omega, hlt⟩, h7⟩
theorem am_R.inr {D : va_G} {cl : List vw_C} {tys : List (ClassId × FieldType)} {b c0 L : Nat} {xs : Nat → Int32} {U : State} {h : am_H} {H : Heap} {a ci : Nat} {fs : List Value} (hR : am_R D cl tys b c0 L xs U h H) (ha : h.1 a = .inr (ci, fs)) (hc : ci ≠ 1000000) : (0 < a ∧ a < h.2.1) ∧ va_at D cl (c0 + a, .inr (ci, fs.map (am_r b c0))) H := by
  obtain ⟨-, ⟨h2, -⟩, -, h5, h6⟩ := hR
  have h0 : a ≠ 0 := by
    intro q
    subst q
    rw [h2] at ha
    cases ha
  have hlt : a < h.2.1 := by
    rcases Nat.lt_or_ge a h.2.1 with q | q
    · exact q
    · have h8 := (h5 a q).symm.trans ha
      simp only [am_z, Sum.inr.injEq, Prod.mk.injEq] at h8
      exact absurd h8.1.symm hc
  have h7 := h6 a (by omega) hlt
  rw [ha] at h7
  exact ⟨⟨by omega, hlt⟩, h7⟩
end
section
section AMO
variable {p : Program} {l : Launch} {e : Env} {R : Room} {s : State} {m : MethodId} {args : Array Value} {below : List Frame} {meth : Method} {c : Code} {Q : State → Prop}
variable {cc : ByteArray} {D : va_G} {cl : List vw_C} {tys : List (ClassId × FieldType)} {b c0 L : Nat} {xs : Nat → Int32} {h0 h : am_H} {nL : Nat} {pcs : Nat → Nat} {own : String} {Tb : List Cond}
variable {H : Heap} {locs : List Loc} {ls : Array Slot} {cells slots : Nat} {lv : am_L} {st : List Value} {j pc : Nat} {X : am_C}
theorem am_w_iconst {nn : Int} (C : CallFix p m c cc nL s args Tb own) (hd : decode cc pc = .ok (.iconst nn, 1)) (hnx : pcs (j + 1) = pc + 1) (hn : some (j + 1, lv, .int (Int32.ofInt nn) :: st, h) = some X) (hB : am_B D cl tys b c0 L xs s h0 nL h lv H locs ls cells slots) (K : am_K p l e R s m args below meth c Q D cl tys b c0 L xs h0 nL pcs X) : W p l e R s m args below meth c H locs cells slots Q (F0 m pc ls (st.map (am_r b c0))) := by
  cases hn
  have k9 := K _ _ _ _ _ hB
  dsimp only at k9
  rw [hnx] at k9
  exact lv_iconst C.1 C.2.1 hd rfl k9
theorem am_w_bipush {nn : Int} (C : CallFix p m c cc nL s args Tb own) (hd : decode cc pc = .ok (.bipush nn, 2)) (hnx : pcs (j + 1) = pc + 2) (hn : some (j + 1, lv, .int (Int8.ofInt nn).toInt32 :: st, h) = some X) (hB : am_B D cl tys b c0 L xs s h0 nL h lv H locs ls cells slots) (K : am_K p l e R s m args below meth c Q D cl tys b c0 L xs h0 nL pcs X) : W p l e R s m args below meth c H locs cells slots Q (F0 m pc ls (st.map (am_r b c0))) := by
  cases hn
  have k9 := K _ _ _ _ _ hB
  dsimp only at k9
  rw [hnx] at k9
  exact lv_bipush C.1 C.2.1 hd rfl k9
theorem am_w_sipush {nn : Int} (C : CallFix p m c cc nL s args Tb own) (hd : decode cc pc = .ok (.sipush nn, 3)) (hnx : pcs (j + 1) = pc + 3) (hn : some (j + 1, lv, .int (Int16.ofInt nn).toInt32 :: st, h) = some X) (hB : am_B D cl tys b c0 L xs s h0 nL h lv H locs ls cells slots) (K : am_K p l e R s m args below meth c Q D cl tys b c0 L xs h0 nL pcs X) : W p l e R s m args below meth c H locs cells slots Q (F0 m pc ls (st.map (am_r b c0))) := by
  cases hn
  have k9 := K _ _ _ _ _ hB
  dsimp only at k9
  rw [hnx] at k9
  exact lv_sipush C.1 C.2.1 hd rfl k9
theorem am_w_lconst {nn : Fin 2} (C : CallFix p m c cc nL s args Tb own) (hd : decode cc pc = .ok (.lconst nn, 1)) (hnx : pcs (j + 1) = pc + 1) (hn : some (j + 1, lv, .long (Int64.ofNat (nn : Nat)) :: st, h) = some X) (hB : am_B D cl tys b c0 L xs s h0 nL h lv H locs ls cells slots) (K : am_K p l e R s m args below meth c Q D cl tys b c0 L xs h0 nL pcs X) : W p l e R s m args below meth c H locs cells slots Q (F0 m pc ls (st.map (am_r b c0))) := by
  cases hn
  have k9 := K _ _ _ _ _ hB
  dsimp only at k9
  rw [hnx] at k9
  exact lv_lconst C.1 C.2.1 hd rfl k9
theorem am_w_ldc {nn : Nat} {vv : Int32} (C : CallFix p m c cc nL s args Tb own) (hw : Jvm.Cond.constant own nn vv ∈ Tb) (hd : decode cc pc = .ok (.ldc nn, 2)) (hnx : pcs (j + 1) = pc + 2) (hn : some (j + 1, lv, .int vv :: st, h) = some X) (hB : am_B D cl tys b c0 L xs s h0 nL h lv H locs ls cells slots) (K : am_K p l e R s m args below meth c Q D cl tys b c0 L xs h0 nL pcs X) : W p l e R s m args below meth c H locs cells slots Q (F0 m pc ls (st.map (am_r b c0))) := by
  cases hn
  have k9 := K _ _ _ _ _ hB
  dsimp only at k9
  rw [hnx] at k9
  exact lv_ldc C.1 C.2.1 C.2.2.2.1 (C.2.2.2.2 _ hw) hd k9
theorem am_w_ldc2_w {nn : Nat} {vv : Int64} (C : CallFix p m c cc nL s args Tb own) (hw : Jvm.Cond.constantLong own nn vv ∈ Tb) (hd : decode cc pc = .ok (.ldc2_w nn, 3)) (hnx : pcs (j + 1) = pc + 3) (hn : some (j + 1, lv, .long vv :: st, h) = some X) (hB : am_B D cl tys b c0 L xs s h0 nL h lv H locs ls cells slots) (K : am_K p l e R s m args below meth c Q D cl tys b c0 L xs h0 nL pcs X) : W p l e R s m args below meth c H locs cells slots Q (F0 m pc ls (st.map (am_r b c0))) := by
  cases hn
  have k9 := K _ _ _ _ _ hB
  dsimp only at k9
  rw [hnx] at k9
  exact lv_ldc2 C.1 C.2.1 C.2.2.2.1 (C.2.2.2.2 _ hw) hd k9
theorem am_w_aconst_null (C : CallFix p m c cc nL s args Tb own) (hd : decode cc pc = .ok (.aconst_null, 1)) (hnx : pcs (j + 1) = pc + 1) (hn : some (j + 1, lv, .null :: st, h) = some X) (hB : am_B D cl tys b c0 L xs s h0 nL h lv H locs ls cells slots) (K : am_K p l e R s m args below meth c Q D cl tys b c0 L xs h0 nL pcs X) : W p l e R s m args below meth c H locs cells slots Q (F0 m pc ls (st.map (am_r b c0))) := by
  cases hn
  have k9 := K _ _ _ _ _ hB
  dsimp only at k9
  rw [hnx] at k9
  exact lv_null C.1 C.2.1 hd k9
theorem am_w_iload_n {kk : Fin 4} (C : CallFix p m c cc nL s args Tb own) (hd : decode cc pc = .ok (.iload_n kk, 1)) (hnx : pcs (j + 1) = pc + 1) (hn : am_ldi lv (kk : Nat) (fun v => some (j + 1, lv, v :: st, h)) = some X) (hB : am_B D cl tys b c0 L xs s h0 nL h lv H locs ls cells slots) (K : am_K p l e R s m args below meth c Q D cl tys b c0 L xs h0 nL pcs X) : W p l e R s m args below meth c H locs cells slots Q (F0 m pc ls (st.map (am_r b c0))) := by
  unfold am_ldi at hn
  split at hn
  · rename_i x hx
    cases hn
    have k9 := K _ _ _ _ _ hB
    dsimp only at k9
    rw [hnx] at k9
    exact lv_iload_n C.1 C.2.1 hd rfl (am_ld hB.2.1 hx) k9
  · cases hn
theorem am_w_iload {kk : Nat} (C : CallFix p m c cc nL s args Tb own) (hd : decode cc pc = .ok (.iload kk, 2)) (hnx : pcs (j + 1) = pc + 2) (hn : am_ldi lv kk (fun v => some (j + 1, lv, v :: st, h)) = some X) (hB : am_B D cl tys b c0 L xs s h0 nL h lv H locs ls cells slots) (K : am_K p l e R s m args below meth c Q D cl tys b c0 L xs h0 nL pcs X) : W p l e R s m args below meth c H locs cells slots Q (F0 m pc ls (st.map (am_r b c0))) := by
  unfold am_ldi at hn
  split at hn
  · rename_i x hx
    cases hn
    have k9 := K _ _ _ _ _ hB
    dsimp only at k9
    rw [hnx] at k9
    exact lv_iload C.1 C.2.1 hd (am_ld hB.2.1 hx) k9
  · cases hn
theorem am_w_lload_n {kk : Fin 4} (C : CallFix p m c cc nL s args Tb own) (hd : decode cc pc = .ok (.lload_n kk, 1)) (hnx : pcs (j + 1) = pc + 1) (hn : am_ldl lv (kk : Nat) (fun v => some (j + 1, lv, v :: st, h)) = some X) (hB : am_B D cl tys b c0 L xs s h0 nL h lv H locs ls cells slots) (K : am_K p l e R s m args below meth c Q D cl tys b c0 L xs h0 nL pcs X) : W p l e R s m args below meth c H locs cells slots Q (F0 m pc ls (st.map (am_r b c0))) := by
  unfold am_ldl at hn
  split at hn
  · rename_i x hx
    cases hn
    have k9 := K _ _ _ _ _ hB
    dsimp only at k9
    rw [hnx] at k9
    exact lv_lload_n C.1 C.2.1 hd rfl (am_ld hB.2.1 hx) k9
  · cases hn
theorem am_w_lload {kk : Nat} (C : CallFix p m c cc nL s args Tb own) (hd : decode cc pc = .ok (.lload kk, 2)) (hnx : pcs (j + 1) = pc + 2) (hn : am_ldl lv kk (fun v => some (j + 1, lv, v :: st, h)) = some X) (hB : am_B D cl tys b c0 L xs s h0 nL h lv H locs ls cells slots) (K : am_K p l e R s m args below meth c Q D cl tys b c0 L xs h0 nL pcs X) : W p l e R s m args below meth c H locs cells slots Q (F0 m pc ls (st.map (am_r b c0))) := by
  unfold am_ldl at hn
  split at hn
  · rename_i x hx
    cases hn
    have k9 := K _ _ _ _ _ hB
    dsimp only at k9
    rw [hnx] at k9
    exact lv_lload C.1 C.2.1 hd (am_ld hB.2.1 hx) k9
  · cases hn
theorem am_w_aload_n {kk : Fin 4} (C : CallFix p m c cc nL s args Tb own) (hd : decode cc pc = .ok (.aload_n kk, 1)) (hnx : pcs (j + 1) = pc + 1) (hn : am_lda lv (kk : Nat) (fun v => some (j + 1, lv, v :: st, h)) = some X) (hB : am_B D cl tys b c0 L xs s h0 nL h lv H locs ls cells slots) (K : am_K p l e R s m args below meth c Q D cl tys b c0 L xs h0 nL pcs X) : W p l e R s m args below meth c H locs cells slots Q (F0 m pc ls (st.map (am_r b c0))) := by
  unfold am_lda at hn
  split at hn
  · rename_i x hx
    cases hn
    have k9 := K _ _ _ _ _ hB
    dsimp only at k9
    rw [hnx] at k9
    exact lv_aload_n C.1 C.2.1 hd rfl (am_ld hB.2.1 hx) k9
  · rename_i hx
    cases hn
    have k9 := K _ _ _ _ _ hB
    dsimp only at k9
    rw [hnx] at k9
    exact lv_aload_nN C.1 C.2.1 hd rfl (am_ld hB.2.1 hx) k9
  · cases hn
theorem am_w_aload {kk : Nat} (C : CallFix p m c cc nL s args Tb own) (hd : decode cc pc = .ok (.aload kk, 2)) (hnx : pcs (j + 1) = pc + 2) (hn : am_lda lv kk (fun v => some (j + 1, lv, v :: st, h)) = some X) (hB : am_B D cl tys b c0 L xs s h0 nL h lv H locs ls cells slots) (K : am_K p l e R s m args below meth c Q D cl tys b c0 L xs h0 nL pcs X) : W p l e R s m args below meth c H locs cells slots Q (F0 m pc ls (st.map (am_r b c0))) := by
  unfold am_lda at hn
  split at hn
  · rename_i x hx
    cases hn
    have k9 := K _ _ _ _ _ hB
    dsimp only at k9
    rw [hnx] at k9
    exact lv_aload C.1 C.2.1 hd (am_ld hB.2.1 hx) k9
  · rename_i hx
    cases hn
    have k9 := K _ _ _ _ _ hB
    dsimp only at k9
    rw [hnx] at k9
    exact lv_aloadN C.1 C.2.1 hd (am_ld hB.2.1 hx) k9
  · cases hn
theorem am_w_istore_n {kk : Fin 4} (C : CallFix p m c cc nL s args Tb own) (hd : decode cc pc = .ok (.istore_n kk, 1)) (hnx : pcs (j + 1) = pc + 1) (hlim : (kk : Nat) < nL) (hn : am_i1 st (fun x r => some (j + 1, am_s1 lv (kk : Nat) (.int x), r, h)) = some X) (hB : am_B D cl tys b c0 L xs s h0 nL h lv H locs ls cells slots) (K : am_K p l e R s m args below meth c Q D cl tys b c0 L xs h0 nL pcs X) : W p l e R s m args below meth c H locs cells slots Q (F0 m pc ls (st.map (am_r b c0))) := by
  unfold am_i1 at hn
  split at hn
  · rename_i x r
    cases hn
    refine lv_istore_n C.1 C.2.1 hd rfl hB.2.1 hlim (am_rl_s1 b c0 lv (kk : Nat) (.int x)) (fun ls1 hl1 => ?_)
    have k9 := K _ _ _ _ _ ⟨hB.1, hl1, hB.2.2⟩
    dsimp only at k9
    rw [hnx] at k9
    exact k9
  · cases hn
theorem am_w_istore {kk : Nat} (C : CallFix p m c cc nL s args Tb own) (hd : decode cc pc = .ok (.istore kk, 2)) (hnx : pcs (j + 1) = pc + 2) (hlim : kk < nL) (hn : am_i1 st (fun x r => some (j + 1, am_s1 lv kk (.int x), r, h)) = some X) (hB : am_B D cl tys b c0 L xs s h0 nL h lv H locs ls cells slots) (K : am_K p l e R s m args below meth c Q D cl tys b c0 L xs h0 nL pcs X) : W p l e R s m args below meth c H locs cells slots Q (F0 m pc ls (st.map (am_r b c0))) := by
  unfold am_i1 at hn
  split at hn
  · rename_i x r
    cases hn
    refine lv_istore C.1 C.2.1 hd hB.2.1 hlim (am_rl_s1 b c0 lv kk (.int x)) (fun ls1 hl1 => ?_)
    have k9 := K _ _ _ _ _ ⟨hB.1, hl1, hB.2.2⟩
    dsimp only at k9
    rw [hnx] at k9
    exact k9
  · cases hn
theorem am_w_lstore_n {kk : Fin 4} (C : CallFix p m c cc nL s args Tb own) (hd : decode cc pc = .ok (.lstore_n kk, 1)) (hnx : pcs (j + 1) = pc + 1) (hlim : (kk : Nat) + 1 < nL) (hn : am_l1 st (fun x r => some (j + 1, am_s2 lv (kk : Nat) (.long x), r, h)) = some X) (hB : am_B D cl tys b c0 L xs s h0 nL h lv H locs ls cells slots) (K : am_K p l e R s m args below meth c Q D cl tys b c0 L xs h0 nL pcs X) : W p l e R s m args below meth c H locs cells slots Q (F0 m pc ls (st.map (am_r b c0))) := by
  unfold am_l1 at hn
  split at hn
  · rename_i x r
    cases hn
    refine lv_lstore_n C.1 C.2.1 hd rfl hB.2.1 hlim (am_rl_s2 b c0 lv (kk : Nat) (.long x)) (fun ls1 hl1 => ?_)
    have k9 := K _ _ _ _ _ ⟨hB.1, hl1, hB.2.2⟩
    dsimp only at k9
    rw [hnx] at k9
    exact k9
  · cases hn
theorem am_w_lstore {kk : Nat} (C : CallFix p m c cc nL s args Tb own) (hd : decode cc pc = .ok (.lstore kk, 2)) (hnx : pcs (j + 1) = pc + 2) (hlim : kk + 1 < nL) (hn : am_l1 st (fun x r => some (j + 1, am_s2 lv kk (.long x), r, h)) = some X) (hB : am_B D cl tys b c0 L xs s h0 nL h lv H locs ls cells slots) (K : am_K p l e R s m args below meth c Q D cl tys b c0 L xs h0 nL pcs X) : W p l e R s m args below meth c H locs cells slots Q (F0 m pc ls (st.map (am_r b c0))) := by
  unfold am_l1 at hn
  split at hn
  · rename_i x r
    cases hn
    refine lv_lstore C.1 C.2.1 hd hB.2.1 hlim (am_rl_s2 b c0 lv kk (.long x)) (fun ls1 hl1 => ?_)
    have k9 := K _ _ _ _ _ ⟨hB.1, hl1, hB.2.2⟩
    dsimp only at k9
    rw [hnx] at k9
    exact k9
  · cases hn
theorem am_w_astore_n {kk : Fin 4} (C : CallFix p m c cc nL s args Tb own) (hd : decode cc pc = .ok (.astore_n kk, 1)) (hnx : pcs (j + 1) = pc + 1) (hlim : (kk : Nat) < nL) (hn : am_r1 st (fun x r => some (j + 1, am_s1 lv (kk : Nat) (.ref x), r, h)) = some X) (hB : am_B D cl tys b c0 L xs s h0 nL h lv H locs ls cells slots) (K : am_K p l e R s m args below meth c Q D cl tys b c0 L xs h0 nL pcs X) : W p l e R s m args below meth c H locs cells slots Q (F0 m pc ls (st.map (am_r b c0))) := by
  unfold am_r1 at hn
  split at hn
  · rename_i x r
    cases hn
    refine lv_astore_n C.1 C.2.1 hd rfl hB.2.1 hlim (am_rl_s1 b c0 lv (kk : Nat) (.ref x)) (fun ls1 hl1 => ?_)
    have k9 := K _ _ _ _ _ ⟨hB.1, hl1, hB.2.2⟩
    dsimp only at k9
    rw [hnx] at k9
    exact k9
  · cases hn
theorem am_w_astore {kk : Nat} (C : CallFix p m c cc nL s args Tb own) (hd : decode cc pc = .ok (.astore kk, 2)) (hnx : pcs (j + 1) = pc + 2) (hlim : kk < nL) (hn : am_r1 st (fun x r => some (j + 1, am_s1 lv kk (.ref x), r, h)) = some X) (hB : am_B D cl tys b c0 L xs s h0 nL h lv H locs ls cells slots) (K : am_K p l e R s m args below meth c Q D cl tys b c0 L xs h0 nL pcs X) : W p l e R s m args below meth c H locs cells slots Q (F0 m pc ls (st.map (am_r b c0))) := by
  unfold am_r1 at hn
  split at hn
  · rename_i x r
    cases hn
    refine lv_astore C.1 C.2.1 hd hB.2.1 hlim (am_rl_s1 b c0 lv kk (.ref x)) (fun ls1 hl1 => ?_)
    have k9 := K _ _ _ _ _ ⟨hB.1, hl1, hB.2.2⟩
    dsimp only at k9
    rw [hnx] at k9
    exact k9
  · cases hn
theorem am_w_iinc {kk : Nat} {nn : Int} (C : CallFix p m c cc nL s args Tb own) (hd : decode cc pc = .ok (.iinc kk nn, 3)) (hnx : pcs (j + 1) = pc + 3) (hlim : kk < nL) (hn : am_inc lv kk nn (fun l1 => some (j + 1, l1, st, h)) = some X) (hB : am_B D cl tys b c0 L xs s h0 nL h lv H locs ls cells slots) (K : am_K p l e R s m args below meth c Q D cl tys b c0 L xs h0 nL pcs X) : W p l e R s m args below meth c H locs cells slots Q (F0 m pc ls (st.map (am_r b c0))) := by
  unfold am_inc at hn
  split at hn
  · rename_i x hx
    cases hn
    obtain ⟨i, hi⟩ := am_ldp (b := b) (c0 := c0) hx
    refine lv_iinc C.1 C.2.1 hd hB.2.1 (k := i) (x := x) hi rfl hlim (am_rl_s1 b c0 lv kk (.int (x + Int32.ofInt nn))) (fun ls1 hl1 => ?_)
    have k9 := K _ _ _ _ _ ⟨hB.1, hl1, hB.2.2⟩
    dsimp only at k9
    rw [hnx] at k9
    exact k9
  · cases hn
theorem am_w_iadd (C : CallFix p m c cc nL s args Tb own) (hd : decode cc pc = .ok (.iadd, 1)) (hnx : pcs (j + 1) = pc + 1) (hn : am_i2 st (fun x y r => some (j + 1, lv, .int (x + y) :: r, h)) = some X) (hB : am_B D cl tys b c0 L xs s h0 nL h lv H locs ls cells slots) (K : am_K p l e R s m args below meth c Q D cl tys b c0 L xs h0 nL pcs X) : W p l e R s m args below meth c H locs cells slots Q (F0 m pc ls (st.map (am_r b c0))) := by
  unfold am_i2 at hn
  split at hn
  · rename_i y x r
    cases hn
    have k9 := K _ _ _ _ _ hB
    dsimp only at k9
    rw [hnx] at k9
    exact lv_iadd C.1 C.2.1 hd k9
  · cases hn
theorem am_w_isub (C : CallFix p m c cc nL s args Tb own) (hd : decode cc pc = .ok (.isub, 1)) (hnx : pcs (j + 1) = pc + 1) (hn : am_i2 st (fun x y r => some (j + 1, lv, .int (x - y) :: r, h)) = some X) (hB : am_B D cl tys b c0 L xs s h0 nL h lv H locs ls cells slots) (K : am_K p l e R s m args below meth c Q D cl tys b c0 L xs h0 nL pcs X) : W p l e R s m args below meth c H locs cells slots Q (F0 m pc ls (st.map (am_r b c0))) := by
  unfold am_i2 at hn
  split at hn
  · rename_i y x r
    cases hn
    have k9 := K _ _ _ _ _ hB
    dsimp only at k9
    rw [hnx] at k9
    exact lv_isub C.1 C.2.1 hd k9
  · cases hn
theorem am_w_imul (C : CallFix p m c cc nL s args Tb own) (hd : decode cc pc = .ok (.imul, 1)) (hnx : pcs (j + 1) = pc + 1) (hn : am_i2 st (fun x y r => some (j + 1, lv, .int (x * y) :: r, h)) = some X) (hB : am_B D cl tys b c0 L xs s h0 nL h lv H locs ls cells slots) (K : am_K p l e R s m args below meth c Q D cl tys b c0 L xs h0 nL pcs X) : W p l e R s m args below meth c H locs cells slots Q (F0 m pc ls (st.map (am_r b c0))) := by
  unfold am_i2 at hn
  split at hn
  · rename_i y x r
    cases hn
    have k9 := K _ _ _ _ _ hB
    dsimp only at k9
    rw [hnx] at k9
    exact lv_imul C.1 C.2.1 hd k9
  · cases hn
theorem am_w_iand (C : CallFix p m c cc nL s args Tb own) (hd : decode cc pc = .ok (.iand, 1)) (hnx : pcs (j + 1) = pc + 1) (hn : am_i2 st (fun x y r => some (j + 1, lv, .int (x &&& y) :: r, h)) = some X) (hB : am_B D cl tys b c0 L xs s h0 nL h lv H locs ls cells slots) (K : am_K p l e R s m args below meth c Q D cl tys b c0 L xs h0 nL pcs X) : W p l e R s m args below meth c H locs cells slots Q (F0 m pc ls (st.map (am_r b c0))) := by
  unfold am_i2 at hn
  split at hn
  · rename_i y x r
    cases hn
    have k9 := K _ _ _ _ _ hB
    dsimp only at k9
    rw [hnx] at k9
    exact lv_iand C.1 C.2.1 hd k9
  · cases hn
theorem am_w_ior (C : CallFix p m c cc nL s args Tb own) (hd : decode cc pc = .ok (.ior, 1)) (hnx : pcs (j + 1) = pc + 1) (hn : am_i2 st (fun x y r => some (j + 1, lv, .int (x ||| y) :: r, h)) = some X) (hB : am_B D cl tys b c0 L xs s h0 nL h lv H locs ls cells slots) (K : am_K p l e R s m args below meth c Q D cl tys b c0 L xs h0 nL pcs X) : W p l e R s m args below meth c H locs cells slots Q (F0 m pc ls (st.map (am_r b c0))) := by
  unfold am_i2 at hn
  split at hn
  · rename_i y x r
    cases hn
    have k9 := K _ _ _ _ _ hB
    dsimp only at k9
    rw [hnx] at k9
    exact lv_ior C.1 C.2.1 hd k9
  · cases hn
theorem am_w_ixor (C : CallFix p m c cc nL s args Tb own) (hd : decode cc pc = .ok (.ixor, 1)) (hnx : pcs (j + 1) = pc + 1) (hn : am_i2 st (fun x y r => some (j + 1, lv, .int (x ^^^ y) :: r, h)) = some X) (hB : am_B D cl tys b c0 L xs s h0 nL h lv H locs ls cells slots) (K : am_K p l e R s m args below meth c Q D cl tys b c0 L xs h0 nL pcs X) : W p l e R s m args below meth c H locs cells slots Q (F0 m pc ls (st.map (am_r b c0))) := by
  unfold am_i2 at hn
  split at hn
  · rename_i y x r
    cases hn
    have k9 := K _ _ _ _ _ hB
    dsimp only at k9
    rw [hnx] at k9
    exact lv_ixor C.1 C.2.1 hd k9
  · cases hn
theorem am_w_ishl (C : CallFix p m c cc nL s args Tb own) (hd : decode cc pc = .ok (.ishl, 1)) (hnx : pcs (j + 1) = pc + 1) (hn : am_i2 st (fun x y r => some (j + 1, lv, .int (x <<< (y &&& 31)) :: r, h)) = some X) (hB : am_B D cl tys b c0 L xs s h0 nL h lv H locs ls cells slots) (K : am_K p l e R s m args below meth c Q D cl tys b c0 L xs h0 nL pcs X) : W p l e R s m args below meth c H locs cells slots Q (F0 m pc ls (st.map (am_r b c0))) := by
  unfold am_i2 at hn
  split at hn
  · rename_i y x r
    cases hn
    have k9 := K _ _ _ _ _ hB
    dsimp only at k9
    rw [hnx] at k9
    exact lv_ishl C.1 C.2.1 hd k9
  · cases hn
theorem am_w_ishr (C : CallFix p m c cc nL s args Tb own) (hd : decode cc pc = .ok (.ishr, 1)) (hnx : pcs (j + 1) = pc + 1) (hn : am_i2 st (fun x y r => some (j + 1, lv, .int (x >>> (y &&& 31)) :: r, h)) = some X) (hB : am_B D cl tys b c0 L xs s h0 nL h lv H locs ls cells slots) (K : am_K p l e R s m args below meth c Q D cl tys b c0 L xs h0 nL pcs X) : W p l e R s m args below meth c H locs cells slots Q (F0 m pc ls (st.map (am_r b c0))) := by
  unfold am_i2 at hn
  split at hn
  · rename_i y x r
    cases hn
    have k9 := K _ _ _ _ _ hB
    dsimp only at k9
    rw [hnx] at k9
    exact lv_ishr C.1 C.2.1 hd k9
  · cases hn
theorem am_w_idiv (C : CallFix p m c cc nL s args Tb own) (hd : decode cc pc = .ok (.idiv, 1)) (hnx : pcs (j + 1) = pc + 1) (hn : am_i2 st (fun x y r => if y = 0 then none else some (j + 1, lv, .int (x / y) :: r, h)) = some X) (hB : am_B D cl tys b c0 L xs s h0 nL h lv H locs ls cells slots) (K : am_K p l e R s m args below meth c Q D cl tys b c0 L xs h0 nL pcs X) : W p l e R s m args below meth c H locs cells slots Q (F0 m pc ls (st.map (am_r b c0))) := by
  unfold am_i2 at hn
  split at hn
  · rename_i y x r
    dsimp only at hn
    split at hn
    · cases hn
    rename_i hne
    cases hn
    have k9 := K _ _ _ _ _ hB
    dsimp only at k9
    rw [hnx] at k9
    exact lv_idiv C.1 C.2.1 hd hne k9
  · cases hn
theorem am_w_irem (C : CallFix p m c cc nL s args Tb own) (hd : decode cc pc = .ok (.irem, 1)) (hnx : pcs (j + 1) = pc + 1) (hn : am_i2 st (fun x y r => if y = 0 then none else some (j + 1, lv, .int (x - x / y * y) :: r, h)) = some X) (hB : am_B D cl tys b c0 L xs s h0 nL h lv H locs ls cells slots) (K : am_K p l e R s m args below meth c Q D cl tys b c0 L xs h0 nL pcs X) : W p l e R s m args below meth c H locs cells slots Q (F0 m pc ls (st.map (am_r b c0))) := by
  unfold am_i2 at hn
  split at hn
  · rename_i y x r
    dsimp only at hn
    split at hn
    · cases hn
    rename_i hne
    cases hn
    have k9 := K _ _ _ _ _ hB
    dsimp only at k9
    rw [hnx] at k9
    exact lv_irem C.1 C.2.1 hd hne k9
  · cases hn
theorem am_w_ineg (C : CallFix p m c cc nL s args Tb own) (hd : decode cc pc = .ok (.ineg, 1)) (hnx : pcs (j + 1) = pc + 1) (hn : am_i1 st (fun x r => some (j + 1, lv, .int (-x) :: r, h)) = some X) (hB : am_B D cl tys b c0 L xs s h0 nL h lv H locs ls cells slots) (K : am_K p l e R s m args below meth c Q D cl tys b c0 L xs h0 nL pcs X) : W p l e R s m args below meth c H locs cells slots Q (F0 m pc ls (st.map (am_r b c0))) := by
  unfold am_i1 at hn
  split at hn
  · rename_i x r
    cases hn
    have k9 := K _ _ _ _ _ hB
    dsimp only at k9
    rw [hnx] at k9
    exact lv_ineg C.1 C.2.1 hd k9
  · cases hn
theorem am_w_iushr (C : CallFix p m c cc nL s args Tb own) (hd : decode cc pc = .ok (.iushr, 1)) (hnx : pcs (j + 1) = pc + 1) (hn : am_i2 st (fun x y r => some (j + 1, lv, .int (x.toUInt32 >>> (y.toUInt32 &&& Int32.toUInt32 31)).toInt32 :: r, h)) = some X) (hB : am_B D cl tys b c0 L xs s h0 nL h lv H locs ls cells slots) (K : am_K p l e R s m args below meth c Q D cl tys b c0 L xs h0 nL pcs X) : W p l e R s m args below meth c H locs cells slots Q (F0 m pc ls (st.map (am_r b c0))) := by
  unfold am_i2 at hn
  split at hn
  · rename_i y x r
    cases hn
    have k9 := K _ _ _ _ _ hB
    dsimp only at k9
    rw [hnx] at k9
    exact lv_iushr C.1 C.2.1 hd rfl k9
  · cases hn
theorem am_w_ladd (C : CallFix p m c cc nL s args Tb own) (hd : decode cc pc = .ok (.ladd, 1)) (hnx : pcs (j + 1) = pc + 1) (hn : am_l2 st (fun x y r => some (j + 1, lv, .long (x + y) :: r, h)) = some X) (hB : am_B D cl tys b c0 L xs s h0 nL h lv H locs ls cells slots) (K : am_K p l e R s m args below meth c Q D cl tys b c0 L xs h0 nL pcs X) : W p l e R s m args below meth c H locs cells slots Q (F0 m pc ls (st.map (am_r b c0))) := by
  unfold am_l2 at hn
  split at hn
  · rename_i y x r
    cases hn
    have k9 := K _ _ _ _ _ hB
    dsimp only at k9
    rw [hnx] at k9
    exact lv_ladd C.1 C.2.1 hd k9
  · cases hn
theorem am_w_lsub (C : CallFix p m c cc nL s args Tb own) (hd : decode cc pc = .ok (.lsub, 1)) (hnx : pcs (j + 1) = pc + 1) (hn : am_l2 st (fun x y r => some (j + 1, lv, .long (x - y) :: r, h)) = some X) (hB : am_B D cl tys b c0 L xs s h0 nL h lv H locs ls cells slots) (K : am_K p l e R s m args below meth c Q D cl tys b c0 L xs h0 nL pcs X) : W p l e R s m args below meth c H locs cells slots Q (F0 m pc ls (st.map (am_r b c0))) := by
  unfold am_l2 at hn
  split at hn
  · rename_i y x r
    cases hn
    have k9 := K _ _ _ _ _ hB
    dsimp only at k9
    rw [hnx] at k9
    exact lv_lsub C.1 C.2.1 hd k9
  · cases hn
theorem am_w_lmul (C : CallFix p m c cc nL s args Tb own) (hd : decode cc pc = .ok (.lmul, 1)) (hnx : pcs (j + 1) = pc + 1) (hn : am_l2 st (fun x y r => some (j + 1, lv, .long (x * y) :: r, h)) = some X) (hB : am_B D cl tys b c0 L xs s h0 nL h lv H locs ls cells slots) (K : am_K p l e R s m args below meth c Q D cl tys b c0 L xs h0 nL pcs X) : W p l e R s m args below meth c H locs cells slots Q (F0 m pc ls (st.map (am_r b c0))) := by
  unfold am_l2 at hn
  split at hn
  · rename_i y x r
    cases hn
    have k9 := K _ _ _ _ _ hB
    dsimp only at k9
    rw [hnx] at k9
    exact lv_lmul C.1 C.2.1 hd k9
  · cases hn
theorem am_w_land (C : CallFix p m c cc nL s args Tb own) (hd : decode cc pc = .ok (.land, 1)) (hnx : pcs (j + 1) = pc + 1) (hn : am_l2 st (fun x y r => some (j + 1, lv, .long (x &&& y) :: r, h)) = some X) (hB : am_B D cl tys b c0 L xs s h0 nL h lv H locs ls cells slots) (K : am_K p l e R s m args below meth c Q D cl tys b c0 L xs h0 nL pcs X) : W p l e R s m args below meth c H locs cells slots Q (F0 m pc ls (st.map (am_r b c0))) := by
  unfold am_l2 at hn
  split at hn
  · rename_i y x r
    cases hn
    have k9 := K _ _ _ _ _ hB
    dsimp only at k9
    rw [hnx] at k9
    exact lv_land C.1 C.2.1 hd k9
  · cases hn
theorem am_w_lor (C : CallFix p m c cc nL s args Tb own) (hd : decode cc pc = .ok (.lor, 1)) (hnx : pcs (j + 1) = pc + 1) (hn : am_l2 st (fun x y r => some (j + 1, lv, .long (x ||| y) :: r, h)) = some X) (hB : am_B D cl tys b c0 L xs s h0 nL h lv H locs ls cells slots) (K : am_K p l e R s m args below meth c Q D cl tys b c0 L xs h0 nL pcs X) : W p l e R s m args below meth c H locs cells slots Q (F0 m pc ls (st.map (am_r b c0))) := by
  unfold am_l2 at hn
  split at hn
  · rename_i y x r
    cases hn
    have k9 := K _ _ _ _ _ hB
    dsimp only at k9
    rw [hnx] at k9
    exact lv_lor C.1 C.2.1 hd k9
  · cases hn
theorem am_w_lxor (C : CallFix p m c cc nL s args Tb own) (hd : decode cc pc = .ok (.lxor, 1)) (hnx : pcs (j + 1) = pc + 1) (hn : am_l2 st (fun x y r => some (j + 1, lv, .long (x ^^^ y) :: r, h)) = some X) (hB : am_B D cl tys b c0 L xs s h0 nL h lv H locs ls cells slots) (K : am_K p l e R s m args below meth c Q D cl tys b c0 L xs h0 nL pcs X) : W p l e R s m args below meth c H locs cells slots Q (F0 m pc ls (st.map (am_r b c0))) := by
  unfold am_l2 at hn
  split at hn
  · rename_i y x r
    cases hn
    have k9 := K _ _ _ _ _ hB
    dsimp only at k9
    rw [hnx] at k9
    exact lv_lxor C.1 C.2.1 hd k9
  · cases hn
theorem am_w_lshl (C : CallFix p m c cc nL s args Tb own) (hd : decode cc pc = .ok (.lshl, 1)) (hnx : pcs (j + 1) = pc + 1) (hn : am_li st (fun x y r => some (j + 1, lv, .long (x <<< (y.toInt64 &&& 63)) :: r, h)) = some X) (hB : am_B D cl tys b c0 L xs s h0 nL h lv H locs ls cells slots) (K : am_K p l e R s m args below meth c Q D cl tys b c0 L xs h0 nL pcs X) : W p l e R s m args below meth c H locs cells slots Q (F0 m pc ls (st.map (am_r b c0))) := by
  unfold am_li at hn
  split at hn
  · rename_i y x r
    cases hn
    have k9 := K _ _ _ _ _ hB
    dsimp only at k9
    rw [hnx] at k9
    exact lv_lshl C.1 C.2.1 hd rfl k9
  · cases hn
theorem am_w_lshr (C : CallFix p m c cc nL s args Tb own) (hd : decode cc pc = .ok (.lshr, 1)) (hnx : pcs (j + 1) = pc + 1) (hn : am_li st (fun x y r => some (j + 1, lv, .long (x >>> (y.toInt64 &&& 63)) :: r, h)) = some X) (hB : am_B D cl tys b c0 L xs s h0 nL h lv H locs ls cells slots) (K : am_K p l e R s m args below meth c Q D cl tys b c0 L xs h0 nL pcs X) : W p l e R s m args below meth c H locs cells slots Q (F0 m pc ls (st.map (am_r b c0))) := by
  unfold am_li at hn
  split at hn
  · rename_i y x r
    cases hn
    have k9 := K _ _ _ _ _ hB
    dsimp only at k9
    rw [hnx] at k9
    exact lv_lshr C.1 C.2.1 hd rfl k9
  · cases hn
theorem am_w_lushr (C : CallFix p m c cc nL s args Tb own) (hd : decode cc pc = .ok (.lushr, 1)) (hnx : pcs (j + 1) = pc + 1) (hn : am_li st (fun x y r => some (j + 1, lv, .long (x.toUInt64 >>> (y.toInt64.toUInt64 &&& Int64.toUInt64 63)).toInt64 :: r, h)) = some X) (hB : am_B D cl tys b c0 L xs s h0 nL h lv H locs ls cells slots) (K : am_K p l e R s m args below meth c Q D cl tys b c0 L xs h0 nL pcs X) : W p l e R s m args below meth c H locs cells slots Q (F0 m pc ls (st.map (am_r b c0))) := by
  unfold am_li at hn
  split at hn
  · rename_i y x r
    cases hn
    have k9 := K _ _ _ _ _ hB
    dsimp only at k9
    rw [hnx] at k9
    exact lv_lushr C.1 C.2.1 hd rfl k9
  · cases hn
theorem am_w_lcmp (C : CallFix p m c cc nL s args Tb own) (hd : decode cc pc = .ok (.lcmp, 1)) (hnx : pcs (j + 1) = pc + 1) (hn : am_l2 st (fun x y r => some (j + 1, lv, .int (lg_cmp x y) :: r, h)) = some X) (hB : am_B D cl tys b c0 L xs s h0 nL h lv H locs ls cells slots) (K : am_K p l e R s m args below meth c Q D cl tys b c0 L xs h0 nL pcs X) : W p l e R s m args below meth c H locs cells slots Q (F0 m pc ls (st.map (am_r b c0))) := by
  unfold am_l2 at hn
  split at hn
  · rename_i y x r
    cases hn
    have k9 := K _ _ _ _ _ hB
    dsimp only at k9
    rw [hnx] at k9
    exact W.lcmp C.1 C.2.1 hd k9
  · cases hn
theorem am_w_i2l (C : CallFix p m c cc nL s args Tb own) (hd : decode cc pc = .ok (.i2l, 1)) (hnx : pcs (j + 1) = pc + 1) (hn : am_i1 st (fun x r => some (j + 1, lv, .long x.toInt64 :: r, h)) = some X) (hB : am_B D cl tys b c0 L xs s h0 nL h lv H locs ls cells slots) (K : am_K p l e R s m args below meth c Q D cl tys b c0 L xs h0 nL pcs X) : W p l e R s m args below meth c H locs cells slots Q (F0 m pc ls (st.map (am_r b c0))) := by
  unfold am_i1 at hn
  split at hn
  · rename_i x r
    cases hn
    have k9 := K _ _ _ _ _ hB
    dsimp only at k9
    rw [hnx] at k9
    exact lv_i2l C.1 C.2.1 hd rfl k9
  · cases hn
theorem am_w_l2i (C : CallFix p m c cc nL s args Tb own) (hd : decode cc pc = .ok (.l2i, 1)) (hnx : pcs (j + 1) = pc + 1) (hn : am_l1 st (fun x r => some (j + 1, lv, .int x.toInt32 :: r, h)) = some X) (hB : am_B D cl tys b c0 L xs s h0 nL h lv H locs ls cells slots) (K : am_K p l e R s m args below meth c Q D cl tys b c0 L xs h0 nL pcs X) : W p l e R s m args below meth c H locs cells slots Q (F0 m pc ls (st.map (am_r b c0))) := by
  unfold am_l1 at hn
  split at hn
  · rename_i x r
    cases hn
    have k9 := K _ _ _ _ _ hB
    dsimp only at k9
    rw [hnx] at k9
    exact lv_l2i C.1 C.2.1 hd rfl k9
  · cases hn
theorem am_w_i2b (C : CallFix p m c cc nL s args Tb own) (hd : decode cc pc = .ok (.i2b, 1)) (hnx : pcs (j + 1) = pc + 1) (hn : am_i1 st (fun x r => some (j + 1, lv, .int x.toInt8.toInt32 :: r, h)) = some X) (hB : am_B D cl tys b c0 L xs s h0 nL h lv H locs ls cells slots) (K : am_K p l e R s m args below meth c Q D cl tys b c0 L xs h0 nL pcs X) : W p l e R s m args below meth c H locs cells slots Q (F0 m pc ls (st.map (am_r b c0))) := by
  unfold am_i1 at hn
  split at hn
  · rename_i x r
    cases hn
    have k9 := K _ _ _ _ _ hB
    dsimp only at k9
    rw [hnx] at k9
    exact lv_i2b C.1 C.2.1 hd rfl k9
  · cases hn
theorem am_w_dup (C : CallFix p m c cc nL s args Tb own) (hd : decode cc pc = .ok (.dup, 1)) (hnx : pcs (j + 1) = pc + 1) (hn : am_v1 st (fun v r => if v.category = 1 then some (j + 1, lv, v :: v :: r, h) else none) = some X) (hB : am_B D cl tys b c0 L xs s h0 nL h lv H locs ls cells slots) (K : am_K p l e R s m args below meth c Q D cl tys b c0 L xs h0 nL pcs X) : W p l e R s m args below meth c H locs cells slots Q (F0 m pc ls (st.map (am_r b c0))) := by
  unfold am_v1 at hn
  split at hn
  · rename_i v r
    dsimp only at hn
    split at hn
    · rename_i hv
      cases hn
      have k9 := K _ _ _ _ _ hB
      dsimp only at k9
      rw [hnx] at k9
      exact lv_dup C.1 C.2.1 hd ((am_r_cat b c0 v).trans hv) k9
    · cases hn
  · cases hn
theorem am_w_pop (C : CallFix p m c cc nL s args Tb own) (hd : decode cc pc = .ok (.pop, 1)) (hnx : pcs (j + 1) = pc + 1) (hn : am_v1 st (fun v r => if v.category = 1 then some (j + 1, lv, r, h) else none) = some X) (hB : am_B D cl tys b c0 L xs s h0 nL h lv H locs ls cells slots) (K : am_K p l e R s m args below meth c Q D cl tys b c0 L xs h0 nL pcs X) : W p l e R s m args below meth c H locs cells slots Q (F0 m pc ls (st.map (am_r b c0))) := by
  unfold am_v1 at hn
  split at hn
  · rename_i v r
    dsimp only at hn
    split at hn
    · rename_i hv
      cases hn
      have k9 := K _ _ _ _ _ hB
      dsimp only at k9
      rw [hnx] at k9
      exact lv_pop C.1 C.2.1 hd ((am_r_cat b c0 v).trans hv) k9
    · cases hn
  · cases hn
theorem am_w_dup2 (C : CallFix p m c cc nL s args Tb own) (hd : decode cc pc = .ok (.dup2, 1)) (hnx : pcs (j + 1) = pc + 1) (hn : am_v2 st (fun v w r => if v.category = 1 ∧ w.category = 1 then some (j + 1, lv, v :: w :: v :: w :: r, h) else none) = some X) (hB : am_B D cl tys b c0 L xs s h0 nL h lv H locs ls cells slots) (K : am_K p l e R s m args below meth c Q D cl tys b c0 L xs h0 nL pcs X) : W p l e R s m args below meth c H locs cells slots Q (F0 m pc ls (st.map (am_r b c0))) := by
  unfold am_v2 at hn
  split at hn
  · rename_i v w r
    dsimp only at hn
    split at hn
    · rename_i hv
      cases hn
      have k9 := K _ _ _ _ _ hB
      dsimp only at k9
      rw [hnx] at k9
      exact lv_dup2_11 C.1 C.2.1 hd ((am_r_cat b c0 v).trans hv.1) ((am_r_cat b c0 w).trans hv.2) k9
    · cases hn
  · cases hn
theorem am_w_dup_x1 (C : CallFix p m c cc nL s args Tb own) (hd : decode cc pc = .ok (.dup_x1, 1)) (hnx : pcs (j + 1) = pc + 1) (hn : am_v2 st (fun v w r => if v.category = 1 ∧ w.category = 1 then some (j + 1, lv, v :: w :: v :: r, h) else none) = some X) (hB : am_B D cl tys b c0 L xs s h0 nL h lv H locs ls cells slots) (K : am_K p l e R s m args below meth c Q D cl tys b c0 L xs h0 nL pcs X) : W p l e R s m args below meth c H locs cells slots Q (F0 m pc ls (st.map (am_r b c0))) := by
  unfold am_v2 at hn
  split at hn
  · rename_i v w r
    dsimp only at hn
    split at hn
    · rename_i hv
      cases hn
      have k9 := K _ _ _ _ _ hB
      dsimp only at k9
      rw [hnx] at k9
      exact lv_dup_x1 C.1 C.2.1 hd ((am_r_cat b c0 v).trans hv.1) ((am_r_cat b c0 w).trans hv.2) k9
    · cases hn
  · cases hn
theorem am_w_ifCond {cd : ClassFile.Cond} {off : Int} {tg : Nat} (C : CallFix p m c cc nL s args Tb own) (hd : decode cc pc = .ok (.ifCond cd off, 3)) (hnx : pcs (j + 1) = pc + 3) (ht : (pc : Int) + off = (pcs tg : Int)) (hn : am_i1 st (fun x r => am_br cd x 0 (some (tg, lv, r, h)) (some (j + 1, lv, r, h))) = some X) (hB : am_B D cl tys b c0 L xs s h0 nL h lv H locs ls cells slots) (K : am_K p l e R s m args below meth c Q D cl tys b c0 L xs h0 nL pcs X) : W p l e R s m args below meth c H locs cells slots Q (F0 m pc ls (st.map (am_r b c0))) := by
  unfold am_i1 at hn
  split at hn
  · rename_i x r
    unfold am_br at hn
    cases cd <;> dsimp only at hn
    · split at hn <;> rename_i hc
      · cases hn
        have k9 := K _ _ _ _ _ hB
        exact lv_if_eq C.1 C.2.1 hd ht (fun _ => k9) (fun q => absurd hc q)
      · cases hn
        have k9 := K _ _ _ _ _ hB
        dsimp only at k9
        rw [hnx] at k9
        exact lv_if_eq C.1 C.2.1 hd ht (fun q => absurd q hc) (fun _ => k9)
    · split at hn <;> rename_i hc
      · cases hn
        have k9 := K _ _ _ _ _ hB
        dsimp only at k9
        rw [hnx] at k9
        exact lv_if_ne C.1 C.2.1 hd ht (fun q => absurd hc q) (fun _ => k9)
      · cases hn
        have k9 := K _ _ _ _ _ hB
        exact lv_if_ne C.1 C.2.1 hd ht (fun _ => k9) (fun q => absurd q hc)
    · split at hn <;> rename_i hc
      · cases hn
        have k9 := K _ _ _ _ _ hB
        exact lv_if_lt C.1 C.2.1 hd ht (fun _ => k9) (fun q => absurd hc q)
      · cases hn
        have k9 := K _ _ _ _ _ hB
        dsimp only at k9
        rw [hnx] at k9
        exact lv_if_lt C.1 C.2.1 hd ht (fun q => absurd q hc) (fun _ => k9)
    · split at hn <;> rename_i hc
      · cases hn
        have k9 := K _ _ _ _ _ hB
        exact lv_if_ge C.1 C.2.1 hd ht (fun _ => k9) (fun q => absurd hc q)
      · cases hn
        have k9 := K _ _ _ _ _ hB
        dsimp only at k9
        rw [hnx] at k9
        exact lv_if_ge C.1 C.2.1 hd ht (fun q => absurd q hc) (fun _ => k9)
    · split at hn <;> rename_i hc
      · cases hn
        have k9 := K _ _ _ _ _ hB
        exact lv_if_gt C.1 C.2.1 hd ht (fun _ => k9) (fun q => absurd hc q)
      · cases hn
        have k9 := K _ _ _ _ _ hB
        dsimp only at k9
        rw [hnx] at k9
        exact lv_if_gt C.1 C.2.1 hd ht (fun q => absurd q hc) (fun _ => k9)
    · split at hn <;> rename_i hc
      · cases hn
        have k9 := K _ _ _ _ _ hB
        exact lv_if_le C.1 C.2.1 hd ht (fun _ => k9) (fun q => absurd hc q)
      · cases hn
        have k9 := K _ _ _ _ _ hB
        dsimp only at k9
        rw [hnx] at k9
        exact lv_if_le C.1 C.2.1 hd ht (fun q => absurd q hc) (fun _ => k9)
  · cases hn
theorem am_w_if_icmp {cd : ClassFile.Cond} {off : Int} {tg : Nat} (C : CallFix p m c cc nL s args Tb own) (hd : decode cc pc = .ok (.if_icmp cd off, 3)) (hnx : pcs (j + 1) = pc + 3) (ht : (pc : Int) + off = (pcs tg : Int)) (hn : am_i2 st (fun x y r => am_br cd x y (some (tg, lv, r, h)) (some (j + 1, lv, r, h))) = some X) (hB : am_B D cl tys b c0 L xs s h0 nL h lv H locs ls cells slots) (K : am_K p l e R s m args below meth c Q D cl tys b c0 L xs h0 nL pcs X) : W p l e R s m args below meth c H locs cells slots Q (F0 m pc ls (st.map (am_r b c0))) := by
  unfold am_i2 at hn
  split at hn
  · rename_i y x r
    unfold am_br at hn
    cases cd <;> dsimp only at hn
    · split at hn <;> rename_i hc
      · cases hn
        have k9 := K _ _ _ _ _ hB
        exact lv_icmp_eq C.1 C.2.1 hd ht (fun _ => k9) (fun q => absurd hc q)
      · cases hn
        have k9 := K _ _ _ _ _ hB
        dsimp only at k9
        rw [hnx] at k9
        exact lv_icmp_eq C.1 C.2.1 hd ht (fun q => absurd q hc) (fun _ => k9)
    · split at hn <;> rename_i hc
      · cases hn
        have k9 := K _ _ _ _ _ hB
        dsimp only at k9
        rw [hnx] at k9
        exact lv_icmp_ne C.1 C.2.1 hd ht (fun q => absurd hc q) (fun _ => k9)
      · cases hn
        have k9 := K _ _ _ _ _ hB
        exact lv_icmp_ne C.1 C.2.1 hd ht (fun _ => k9) (fun q => absurd q hc)
    · split at hn <;> rename_i hc
      · cases hn
        have k9 := K _ _ _ _ _ hB
        exact lv_icmp_lt C.1 C.2.1 hd ht (fun _ => k9) (fun q => absurd hc q)
      · cases hn
        have k9 := K _ _ _ _ _ hB
        dsimp only at k9
        rw [hnx] at k9
        exact lv_icmp_lt C.1 C.2.1 hd ht (fun q => absurd q hc) (fun _ => k9)
    · split at hn <;> rename_i hc
      · cases hn
        have k9 := K _ _ _ _ _ hB
        exact lv_icmp_ge C.1 C.2.1 hd ht (fun _ => k9) (fun q => absurd hc q)
      · cases hn
        have k9 := K _ _ _ _ _ hB
        dsimp only at k9
        rw [hnx] at k9
        exact lv_icmp_ge C.1 C.2.1 hd ht (fun q => absurd q hc) (fun _ => k9)
    · split at hn <;> rename_i hc
      · cases hn
        have k9 := K _ _ _ _ _ hB
        exact lv_icmp_gt C.1 C.2.1 hd ht (fun _ => k9) (fun q => absurd hc q)
      · cases hn
        have k9 := K _ _ _ _ _ hB
        dsimp only at k9
        rw [hnx] at k9
        exact lv_icmp_gt C.1 C.2.1 hd ht (fun q => absurd q hc) (fun _ => k9)
    · split at hn <;> rename_i hc
      · cases hn
        have k9 := K _ _ _ _ _ hB
        exact lv_icmp_le C.1 C.2.1 hd ht (fun _ => k9) (fun q => absurd hc q)
      · cases hn
        have k9 := K _ _ _ _ _ hB
        dsimp only at k9
        rw [hnx] at k9
        exact lv_icmp_le C.1 C.2.1 hd ht (fun q => absurd q hc) (fun _ => k9)
  · cases hn
theorem am_w_goto {off : Int} {tg : Nat} (C : CallFix p m c cc nL s args Tb own) (hd : decode cc pc = .ok (.goto off, 3)) (ht : (pc : Int) + off = (pcs tg : Int)) (hn : some (tg, lv, st, h) = some X) (hB : am_B D cl tys b c0 L xs s h0 nL h lv H locs ls cells slots) (K : am_K p l e R s m args below meth c Q D cl tys b c0 L xs h0 nL pcs X) : W p l e R s m args below meth c H locs cells slots Q (F0 m pc ls (st.map (am_r b c0))) := by
  cases hn
  exact lv_goto C.1 C.2.1 hd ht (K _ _ _ _ _ hB)
theorem am_w_ifnull {off : Int} {tg : Nat} (C : CallFix p m c cc nL s args Tb own) (hd : decode cc pc = .ok (.ifnull off, 3)) (hnx : pcs (j + 1) = pc + 3) (ht : (pc : Int) + off = (pcs tg : Int)) (hn : am_nl st (fun r => some (tg, lv, r, h)) (fun r => some (j + 1, lv, r, h)) = some X) (hB : am_B D cl tys b c0 L xs s h0 nL h lv H locs ls cells slots) (K : am_K p l e R s m args below meth c Q D cl tys b c0 L xs h0 nL pcs X) : W p l e R s m args below meth c H locs cells slots Q (F0 m pc ls (st.map (am_r b c0))) := by
  unfold am_nl at hn
  split at hn
  · cases hn
    exact lv_ifnullN C.1 C.2.1 hd ht (K _ _ _ _ _ hB)
  · cases hn
    have k9 := K _ _ _ _ _ hB
    dsimp only at k9
    rw [hnx] at k9
    exact lv_ifnull C.1 C.2.1 hd k9
  · cases hn
theorem am_w_ifnonnull {off : Int} {tg : Nat} (C : CallFix p m c cc nL s args Tb own) (hd : decode cc pc = .ok (.ifnonnull off, 3)) (hnx : pcs (j + 1) = pc + 3) (ht : (pc : Int) + off = (pcs tg : Int)) (hn : am_nl st (fun r => some (j + 1, lv, r, h)) (fun r => some (tg, lv, r, h)) = some X) (hB : am_B D cl tys b c0 L xs s h0 nL h lv H locs ls cells slots) (K : am_K p l e R s m args below meth c Q D cl tys b c0 L xs h0 nL pcs X) : W p l e R s m args below meth c H locs cells slots Q (F0 m pc ls (st.map (am_r b c0))) := by
  unfold am_nl at hn
  split at hn
  · cases hn
    have k9 := K _ _ _ _ _ hB
    dsimp only at k9
    rw [hnx] at k9
    exact lv_ifnonnullN C.1 C.2.1 hd k9
  · cases hn
    exact lv_ifnonnull C.1 C.2.1 hd ht (K _ _ _ _ _ hB)
  · cases hn
end AMO
end
section
section AMH
variable {p : Program} {l : Launch} {e : Env} {R : Room} {s : State} {m : MethodId} {args : Array Value} {below : List Frame} {meth : Method} {c : Code} {Q : State → Prop}
variable {cc : ByteArray} {D : va_G} {cl : List vw_C} {tys : List (ClassId × FieldType)} {b c0 L : Nat} {xs : Nat → Int32} {h0 h : am_H} {nL : Nat} {pcs : Nat → Nat} {own : String} {Tb : List Cond}
variable {H : Heap} {locs : List Loc} {ls : Array Slot} {cells slots : Nat} {lv : am_L} {st rest : List Value} {j pc : Nat} {X : am_C}
theorem am_P1 {q : Nat × va_E} (hq : va_at D cl q H) : va_P D cl [q] H := by
  intro k w hw
  cases k with
  | zero =>
    simp only [List.getElem?_cons_zero, Option.some.injEq] at hw
    subst hw
    exact hq
  | succ k => simp at hw
theorem am_adp {a : Nat} (ha : 0 < a) : am_ad b c0 a = c0 + a := if_neg (by omega)
/-- putfield, with all that is left as it was -/
theorem am_putO (hexec : p.tables.exec = Jvm.exec) (hb : c.code = cc) {Cn : String} {T : u_T} {N ci index k a : Nat} (hts : ∀ w ∈ Tb, w.before args s = true) (hin : ∀ w ∈ u_ws Cn T N, w ∈ Tb) (ty0 : Nat → FieldType) (hty : ∀ k, k < N → parseFieldDescriptor (T k).2.2.1 = some (ty0 k)) (hnm : ∀ a, a < N → ∀ b, b < N → a ≠ b → (T a).2.1 ≠ (T b).2.1) (hown : s.vm.findClass own = some m.cls) (hK : va_K D cl tys s) {fs : List Value} (hP : va_at D cl (a, .inr (ci, fs)) H) (hc : cl[ci]? = some (Cn, T, N)) (hk : k < N) (hlink : (Cond.fieldLink own index (T k).1 (T k).2.1 (T k).2.2.1).before args s = true) (hfin : (T k).2.2.2 = false ∨ ((T k).2.2.2 = true ∧ meth.name = "<init>" ∧ (T k).1 = own)) {v : Value} (hn : narrow (ty0 k) v = v) (hfit : fits (ty0 k) v = true) (hl : k < fs.length)
    (hdg : decode cc pc = .ok (.putfield index, 3)) (kk : ∀ (H1 : Heap) (x : Nat), va_at D cl (a, .inr (ci, fs.set k v)) H1 → H1.size = H.size → (∀ q, q ≠ a → H1[q]? = H[q]?) → W p l e R s m args below meth c H1 (locs ++ [⟨a, x⟩]) cells slots Q (F0 m (pc + 3) ls rest)) : W p l e R s m args below meth c H locs cells slots Q (F0 m pc ls (v :: .ref a :: rest)) := by
  have hap := va_apart (own := own) hts hin ty0 hty hnm hK hc
  obtain ⟨r, h1, cell, q1, q2, q3, q4⟩ := hP
  have hr : r = (Cn, T, N) := Option.some.inj (h1.symm.trans hc)
  subst hr
  obtain ⟨hS, hfc, kC, hkC, hkind⟩ := hK.1 ci _ hc
  obtain ⟨cf, kf, fi, f, hi, hsl⟩ := hS k hk
  have hlay := hts _ (hin _ (u_in_lay hk))
  have hst := (u_facts hfc hkC (u_lays hts hin hk) hi).1
  have hd := hty k hk
  rcases hfin with hfin | ⟨hfin, hin2, hdecl⟩
  · unfold u_lay at hlay
    rw [if_neg (by rw [hfin]; decide)] at hlay
    have h6 := u_store hfc hkC hkind hlay hi hd hn hfit
    refine W.putK hexec hb (f := f) ⟨hown, hlink, ⟨_, _, _, hi⟩, hst⟩ (by rw [q2]; exact h6) q1 q3 (by rw [hsl]; exact k2_hasslot (q4 k hk)) rfl rfl hdg fun H' e1 e2 e3 => ?_
    rw [hsl] at e1 ⊢
    exact kk H' _ ⟨_, hc, t_OB.to (V := updV (vp_V fs) k v) ⟨_, e1, q2, q3, t_set q4 hap hk v⟩ (fun j _ => vp_updV_set hl v j)⟩ e2 e3
  · unfold u_lay at hlay
    rw [if_pos hfin] at hlay
    have hcf : m.cls = cf := by
      obtain ⟨_, _, c', _, _, _, -, -, hf', -, -, -, hown2, -⟩ := Cond.laysFinal_spec hlay
      have e1 : c' = cf := by have := hi.symm.trans hf'; simp at this; exact this.1.symm
      rw [hdecl] at hown2
      rw [← e1]; exact Option.some.inj (hown.symm.trans hown2)
    have h6 := u_fits hfc hkC hkind (Or.inr hlay) hi hd hn hfit
    refine W.putFinK hexec hb hown hlink hi hst hcf hin2 (by rw [q2]; exact h6) q1 q3 (by rw [hsl]; exact k2_hasslot (q4 k hk)) rfl rfl hdg fun H' e1 e2 e3 => ?_
    rw [hsl] at e1 ⊢
    exact kk H' _ ⟨_, hc, t_OB.to (V := updV (vp_V fs) k v) ⟨_, e1, q2, q3, t_set q4 hap hk v⟩ (fun j _ => vp_updV_set hl v j)⟩ e2 e3
/-- which kind of number a type of field is -/
def am_kt (ty : FieldType) : Nat := match ty with
  | .int => 0
  | .long => 1
  | .object _ => 2
  | .array _ => 2
  | .boolean => 3
  | _ => 9
theorem am_ft_ok {ty : FieldType} {v : Value} (h : am_ft (am_kt ty) v = true) : narrow ty (am_r b c0 v) = am_r b c0 v ∧ fits ty (am_r b c0 v) = true := by
  cases ty <;> cases v <;> first | exact ⟨rfl, rfl⟩ | (simp [am_kt, am_ft] at h; done) | skip
  rename_i x
  simp only [am_kt, am_ft, Bool.or_eq_true, beq_iff_eq] at h
  rcases h with h | h <;> subst h <;> exact ⟨rfl, rfl⟩
theorem am_w_getfield {idx a k N : Nat} {Cn : String} {T : u_T} (C : CallFix p m c cc nL s args Tb own) (hd : decode cc pc = .ok (.getfield idx, 3)) (hnx : pcs (j + 1) = pc + 3) (hc : cl[a]? = some (Cn, T, N)) (hk : k < N) (hin : ∀ w ∈ u_ws Cn T N, w ∈ Tb) (hln : Jvm.Cond.fieldLink own idx (T k).1 (T k).2.1 (T k).2.2.1 ∈ Tb) (ha : a ≠ 1000000) (hn : am_r1 st (fun x r => am_ob (h.1 x) a (fun fs => am_fd fs k (fun v => some (j + 1, lv, v :: r, h)))) = some X) (hB : am_B D cl tys b c0 L xs s h0 nL h lv H locs ls cells slots) (K : am_K p l e R s m args below meth c Q D cl tys b c0 L xs h0 nL pcs X) : W p l e R s m args below meth c H locs cells slots Q (F0 m pc ls (st.map (am_r b c0))) := by
  unfold am_r1 at hn
  split at hn
  · rename_i x r
    dsimp only at hn
    unfold am_ob at hn
    split at hn
    · rename_i ci fs hx
      split at hn
      · rename_i hci
        subst hci
        dsimp only at hn
        unfold am_fd at hn
        split at hn
        · rename_i v hv
          cases hn
          have k9 := K _ _ _ _ _ hB
          dsimp only at k9
          rw [hnx] at k9
          obtain ⟨⟨h1, h2⟩, h3⟩ := hB.1.inr hx ha
          show W p l e R s m args below meth c H locs cells slots Q (F0 m pc ls (.ref (am_ad b c0 x) :: r.map (am_r b c0)))
          rw [am_adp h1]
          exact va_get (D := D) C.1 C.2.1 C.2.2.2.2 hin C.2.2.2.1 hB.1.2.2.1 (am_P1 h3) 0 rfl hc k hk (C.2.2.2.2 _ hln) (fun _ h => h) (v := am_r b c0 v) (by rw [List.getElem?_map, hv]; rfl) hd k9
        · cases hn
      · cases hn
    · cases hn
  · cases hn
theorem am_w_putfield {idx a k d N : Nat} {Cn : String} {T : u_T} (C : CallFix p m c cc nL s args Tb own) (hd : decode cc pc = .ok (.putfield idx, 3)) (hnx : pcs (j + 1) = pc + 3) (hc : cl[a]? = some (Cn, T, N)) (hk : k < N) (hin : ∀ w ∈ u_ws Cn T N, w ∈ Tb) (ty0 : Nat → FieldType) (hty : ∀ k, k < N → parseFieldDescriptor (T k).2.2.1 = some (ty0 k)) (hnm : ∀ a, a < N → ∀ b, b < N → a ≠ b → (T a).2.1 ≠ (T b).2.1) (hln : Jvm.Cond.fieldLink own idx (T k).1 (T k).2.1 (T k).2.2.1 ∈ Tb) (hfin : (T k).2.2.2 = false ∨ ((T k).2.2.2 = true ∧ meth.name = "<init>" ∧ (T k).1 = own)) (hdk : am_kt (ty0 k) = d) (ha : a ≠ 1000000) (hn : am_vr st (fun v x r => am_ob (h.1 x) a (fun fs => if k < fs.length ∧ am_ft d v = true then some (j + 1, lv, r, am_put h x (.inr (a, fs.set k v))) else none)) = some X) (hB : am_B D cl tys b c0 L xs s h0 nL h lv H locs ls cells slots) (K : am_K p l e R s m args below meth c Q D cl tys b c0 L xs h0 nL pcs X) : W p l e R s m args below meth c H locs cells slots Q (F0 m pc ls (st.map (am_r b c0))) := by
  unfold am_vr at hn
  split at hn
  · rename_i v x r
    dsimp only at hn
    unfold am_ob at hn
    split at hn
    · rename_i ci fs hx
      split at hn
      · rename_i hci
        subst hci
        dsimp only at hn
        split at hn
        · rename_i hv
          cases hn
          obtain ⟨⟨h1, h2⟩, h3⟩ := hB.1.inr hx ha
          obtain ⟨hv1, hv2⟩ := hv
          rw [← hdk] at hv2
          obtain ⟨f1, f2⟩ := am_ft_ok (b := b) (c0 := c0) hv2
          show W p l e R s m args below meth c H locs cells slots Q (F0 m pc ls (am_r b c0 v :: .ref (am_ad b c0 x) :: r.map (am_r b c0)))
          rw [am_adp h1]
          refine am_putO C.1 C.2.1 C.2.2.2.2 hin ty0 hty hnm C.2.2.2.1 hB.1.2.2.1 h3 hc hk (C.2.2.2.2 _ hln) hfin f1 f2 (by rw [List.length_map]; exact hv1) hd (fun H1 y e1 e2 e3 => ?_)
          have k9 := K _ _ _ _ _ (hB.put (k := y) (E := .inr (ci, fs.set k v)) h1 h2 e2 e3 (by show va_at D cl (c0 + x, .inr (ci, (fs.set k v).map (am_r b c0))) H1; rw [List.map_set]; exact e1))
          dsimp only at k9
          rw [hnx] at k9
          exact k9
        · cases hn
      · cases hn
    · cases hn
  · cases hn
theorem am_w_iaload (C : CallFix p m c cc nL s args Tb own) (hd : decode cc pc = .ok (.iaload, 1)) (hnx : pcs (j + 1) = pc + 1) (hty : ∃ cA, tys[0]? = some (cA, .int)) (hn : am_ir st (fun i x r => am_ai (h.1 x) 0 i (fun _ f => some (j + 1, lv, .int (f i.toNatClampNeg) :: r, h))) = some X) (hB : am_B D cl tys b c0 L xs s h0 nL h lv H locs ls cells slots) (K : am_K p l e R s m args below meth c Q D cl tys b c0 L xs h0 nL pcs X) : W p l e R s m args below meth c H locs cells slots Q (F0 m pc ls (st.map (am_r b c0))) := by
  unfold am_ir at hn
  split at hn
  · rename_i i x r
    dsimp only at hn
    unfold am_ai at hn
    split at hn
    · rename_i u n f hx
      split at hn
      · rename_i hu
        subst hu
        split at hn
        · cases hn
        · rename_i hin
          cases hn
          have k9 := K _ _ _ _ _ hB
          dsimp only at k9
          rw [hnx] at k9
          obtain ⟨cA, hcA⟩ := hty
          have hlt : i.toNatClampNeg < n := Nat.not_le.mp fun q => hin (Or.inr q)
          by_cases hx0 : x = 0
          · subst hx0
            obtain ⟨-, ⟨z1, scr, z2, z3, z4, z5, z6⟩, -⟩ := hB.1
            rw [z1] at hx
            cases hx
            exact W.iald (v := .int (xs i.toNatClampNeg)) C.1 C.2.1 z2 z3 z4 (by rw [z5]; exact hin) (z6 _ hlt) rfl rfl hd k9
          · obtain ⟨⟨h1, h2⟩, q, hq, h3⟩ := hB.1.inl hx hx0
            cases hcA.symm.trans hq
            show W p l e R s m args below meth c H locs cells slots Q (F0 m pc ls (.int i :: .ref (am_ad b c0 x) :: r.map (am_r b c0)))
            rw [am_adp h1]
            exact W.iald (v := .int (f i.toNatClampNeg)) C.1 C.2.1 h3 ((hB.1.2.2.1.2 _ _ hcA).1 n (fun j => .int (f j))) (fun q => by cases q) (by show ¬ (i < 0 ∨ (arrV _ _ _).slots.size ≤ _); rw [arrV_size]; exact hin) (arrV_read _ _ hlt) rfl rfl hd k9
      · cases hn
    · cases hn
  · cases hn
theorem am_w_laload (C : CallFix p m c cc nL s args Tb own) (hd : decode cc pc = .ok (.laload, 1)) (hnx : pcs (j + 1) = pc + 1) (hty : ∃ cA, tys[1]? = some (cA, .long)) (hn : am_ir st (fun i x r => am_al (h.1 x) 1 i (fun _ f => some (j + 1, lv, .long (f i.toNatClampNeg) :: r, h))) = some X) (hB : am_B D cl tys b c0 L xs s h0 nL h lv H locs ls cells slots) (K : am_K p l e R s m args below meth c Q D cl tys b c0 L xs h0 nL pcs X) : W p l e R s m args below meth c H locs cells slots Q (F0 m pc ls (st.map (am_r b c0))) := by
  unfold am_ir at hn
  split at hn
  · rename_i i x r
    dsimp only at hn
    unfold am_al at hn
    split at hn
    · rename_i u n f hx
      split at hn
      · rename_i hu
        subst hu
        split at hn
        · cases hn
        · rename_i hin
          cases hn
          have k9 := K _ _ _ _ _ hB
          dsimp only at k9
          rw [hnx] at k9
          obtain ⟨cA, hcA⟩ := hty
          have hlt : i.toNatClampNeg < n := Nat.not_le.mp fun q => hin (Or.inr q)
          by_cases hx0 : x = 0
          · subst hx0
            rw [hB.1.2.1.1] at hx
            cases hx
          · obtain ⟨⟨h1, h2⟩, q, hq, h3⟩ := hB.1.inl hx hx0
            cases hcA.symm.trans hq
            show W p l e R s m args below meth c H locs cells slots Q (F0 m pc ls (.int i :: .ref (am_ad b c0 x) :: r.map (am_r b c0)))
            rw [am_adp h1]
            exact W.lald (v := .long (f i.toNatClampNeg)) C.1 C.2.1 h3 ((hB.1.2.2.1.2 _ _ hcA).1 n (fun j => .long (f j))) (fun q => by cases q) (by show ¬ (i < 0 ∨ (arrV _ _ _).slots.size ≤ _); rw [arrV_size]; exact hin) (arrV_read _ _ hlt) rfl rfl hd k9
      · cases hn
    · cases hn
  · cases hn
theorem am_w_baload (C : CallFix p m c cc nL s args Tb own) (hd : decode cc pc = .ok (.baload, 1)) (hnx : pcs (j + 1) = pc + 1) (hty2 : ∃ cA, tys[2]? = some (cA, .byte)) (hty3 : ∃ cA, tys[3]? = some (cA, .boolean)) (hn : am_ir st (fun i x r => am_ab (h.1 x) i (fun _ _ f => some (j + 1, lv, .int (f i.toNatClampNeg) :: r, h))) = some X) (hB : am_B D cl tys b c0 L xs s h0 nL h lv H locs ls cells slots) (K : am_K p l e R s m args below meth c Q D cl tys b c0 L xs h0 nL pcs X) : W p l e R s m args below meth c H locs cells slots Q (F0 m pc ls (st.map (am_r b c0))) := by
  unfold am_ir at hn
  split at hn
  · rename_i i x r
    dsimp only at hn
    unfold am_ab at hn
    split at hn
    · rename_i u n f hx
      split at hn
      · rename_i hu
        split at hn
        · cases hn
        · rename_i hin
          cases hn
          have k9 := K _ _ _ _ _ hB
          dsimp only at k9
          rw [hnx] at k9
          have hlt : i.toNatClampNeg < n := Nat.not_le.mp fun q => hin (Or.inr q)
          have hx0 : x ≠ 0 := by
            intro hx0
            subst hx0
            rw [hB.1.2.1.1] at hx
            cases hx
            rcases hu with hu | hu <;> cases hu
          obtain ⟨⟨h1, h2⟩, q, hq, h3⟩ := hB.1.inl hx hx0
          show W p l e R s m args below meth c H locs cells slots Q (F0 m pc ls (.int i :: .ref (am_ad b c0 x) :: r.map (am_r b c0)))
          rw [am_adp h1]
          rcases hu with hu | hu
          · subst hu
            obtain ⟨cA, hcA⟩ := hty2
            cases hcA.symm.trans hq
            exact W.bald (v := .int (f i.toNatClampNeg)) C.1 C.2.1 h3 ((hB.1.2.2.1.2 _ _ hcA).1 n (fun j => .int (f j))) (fun q => by cases q) (by show ¬ (i < 0 ∨ (arrV _ _ _).slots.size ≤ _); rw [arrV_size]; exact hin) (arrV_read _ _ hlt) rfl rfl hd k9
          · subst hu
            obtain ⟨cA, hcA⟩ := hty3
            cases hcA.symm.trans hq
            exact W.zald (v := .int (f i.toNatClampNeg)) C.1 C.2.1 h3 ((hB.1.2.2.1.2 _ _ hcA).1 n (fun j => .int (f j))) (fun q => by cases q) (by show ¬ (i < 0 ∨ (arrV _ _ _).slots.size ≤ _); rw [arrV_size]; exact hin) (arrV_read _ _ hlt) rfl rfl hd k9
      · cases hn
    · cases hn
  · cases hn
theorem am_w_aaload (C : CallFix p m c cc nL s args Tb own) (hd : decode cc pc = .ok (.aaload, 1)) (hnx : pcs (j + 1) = pc + 1) (htr : ∀ t q, 4 ≤ t → tys[t]? = some q → q.2.isReference = true) (hn : am_ir st (fun i x r => am_aq (h.1 x) i (fun _ f => some (j + 1, lv, va_rf (f i.toNatClampNeg) :: r, h))) = some X) (hB : am_B D cl tys b c0 L xs s h0 nL h lv H locs ls cells slots) (K : am_K p l e R s m args below meth c Q D cl tys b c0 L xs h0 nL pcs X) : W p l e R s m args below meth c H locs cells slots Q (F0 m pc ls (st.map (am_r b c0))) := by
  unfold am_ir at hn
  split at hn
  · rename_i i x r
    dsimp only at hn
    unfold am_aq at hn
    split at hn
    · rename_i u n f hx
      split at hn
      · rename_i hu
        split at hn
        · cases hn
        · rename_i hin
          cases hn
          have k9 := K _ _ _ _ _ hB
          dsimp only at k9
          rw [hnx] at k9
          have hlt : i.toNatClampNeg < n := Nat.not_le.mp fun q => hin (Or.inr q)
          have hx0 : x ≠ 0 := by
            intro hx0
            subst hx0
            rw [hB.1.2.1.1] at hx
            cases hx
          obtain ⟨⟨h1, h2⟩, q, hq, h3⟩ := hB.1.inl hx hx0
          show W p l e R s m args below meth c H locs cells slots Q (F0 m pc ls (.int i :: .ref (am_ad b c0 x) :: r.map (am_r b c0)))
          rw [am_adp h1]
          have e8 : am_r b c0 (va_rf (f i.toNatClampNeg)) = va_rf ((f i.toNatClampNeg).map (am_ad b c0)) := by cases f i.toNatClampNeg <;> rfl
          have k8 : W p l e R s m args below meth c H locs cells slots Q (F0 m (pc + 1) ls (am_r b c0 (va_rf (f i.toNatClampNeg)) :: r.map (am_r b c0))) := k9
          rw [e8] at k8
          exact W.aald (v := va_rf ((f i.toNatClampNeg).map (am_ad b c0))) (ty := q.2) C.1 C.2.1 h3 ((hB.1.2.2.1.2 _ _ hq).1 n (fun j => va_rf ((f j).map (am_ad b c0)))) (htr _ _ hu hq) (fun q => by cases q) (by show ¬ (i < 0 ∨ (arrV _ _ _).slots.size ≤ _); rw [arrV_size]; exact hin) (arrV_read _ _ hlt) rfl rfl hd k8
      · cases hn
    · cases hn
  · cases hn
theorem am_w_bastore (C : CallFix p m c cc nL s args Tb own) (hd : decode cc pc = .ok (.bastore, 1)) (hnx : pcs (j + 1) = pc + 1) (hty2 : ∃ cA, tys[2]? = some (cA, .byte)) (hty3 : ∃ cA, tys[3]? = some (cA, .boolean)) (hn : am_iir st (fun v i x r => am_ab (h.1 x) i (fun u n f => if x = 0 then none else some (j + 1, lv, r, am_put h x (.inl (u, n, .inl (upd f i.toNatClampNeg (vp_nar (if u = 2 then .byte else .boolean) v))))))) = some X) (hB : am_B D cl tys b c0 L xs s h0 nL h lv H locs ls cells slots) (K : am_K p l e R s m args below meth c Q D cl tys b c0 L xs h0 nL pcs X) : W p l e R s m args below meth c H locs cells slots Q (F0 m pc ls (st.map (am_r b c0))) := by
  unfold am_iir at hn
  split at hn
  · rename_i v i x r
    dsimp only at hn
    unfold am_ab at hn
    split at hn
    · rename_i u n f hx
      split at hn
      · rename_i hu
        split at hn
        · cases hn
        · rename_i hin
          dsimp only at hn
          split at hn
          · cases hn
          · rename_i hx0
            cases hn
            have hlt : i.toNatClampNeg < n := Nat.not_le.mp fun q => hin (Or.inr q)
            obtain ⟨⟨h1, h2⟩, q, hq, h3⟩ := hB.1.inl hx hx0
            show W p l e R s m args below meth c H locs cells slots Q (F0 m pc ls (.int v :: .int i :: .ref (am_ad b c0 x) :: r.map (am_r b c0)))
            rw [am_adp h1]
            rcases hu with hu | hu
            · subst hu
              obtain ⟨cA, hcA⟩ := hty2
              cases hcA.symm.trans hq
              refine W.bast C.1 C.2.1 h3 ((hB.1.2.2.1.2 _ _ hcA).1 n (fun j => .int (f j))) (fun q => by cases q) (by show ¬ (i < 0 ∨ (arrV _ _ _).slots.size ≤ _); rw [arrV_size]; exact hin) rfl rfl hd fun H1 e1 e2 e3 => ?_
              have k9 := K _ _ _ _ _ (hB.put (k := i.toNatClampNeg) (E := .inl (2, n, .inl (upd f i.toNatClampNeg (vp_nar (if (2 : Nat) = 2 then .byte else .boolean) v)))) h1 h2 e2 e3 ⟨_, hcA, by
                rw [e1]
                show some (Cell.setSlot (vp_cell cA (n, .inl f)) _ _) = some (vp_cell cA (n, .inl (upd f i.toNatClampNeg (vp_nar .byte v))))
                rw [vp_cell_i, vp_cell_i, arrV_store]
                congr 2
                funext q
                by_cases hq : q = i.toNatClampNeg
                · subst hq
                  simp [updV, upd, vp_nar]
                  try rfl
                · simp [updV, upd, hq]⟩)
              dsimp only at k9
              rw [hnx] at k9
              exact k9
            · subst hu
              obtain ⟨cA, hcA⟩ := hty3
              cases hcA.symm.trans hq
              refine W.zast C.1 C.2.1 h3 ((hB.1.2.2.1.2 _ _ hcA).1 n (fun j => .int (f j))) (fun q => by cases q) (by show ¬ (i < 0 ∨ (arrV _ _ _).slots.size ≤ _); rw [arrV_size]; exact hin) rfl rfl hd fun H1 e1 e2 e3 => ?_
              have k9 := K _ _ _ _ _ (hB.put (k := i.toNatClampNeg) (E := .inl (3, n, .inl (upd f i.toNatClampNeg (vp_nar (if (3 : Nat) = 2 then .byte else .boolean) v)))) h1 h2 e2 e3 ⟨_, hcA, by
                rw [e1]
                show some (Cell.setSlot (vp_cell cA (n, .inl f)) _ _) = some (vp_cell cA (n, .inl (upd f i.toNatClampNeg (vp_nar .boolean v))))
                rw [vp_cell_i, vp_cell_i, arrV_store]
                congr 2
                funext q
                by_cases hq : q = i.toNatClampNeg
                · subst hq
                  simp [updV, upd, vp_nar]
                  try rfl
                · simp [updV, upd, hq]⟩)
              dsimp only at k9
              rw [hnx] at k9
              exact k9
      · cases hn
    · cases hn
  · cases hn
theorem am_w_iastore (C : CallFix p m c cc nL s args Tb own) (hd : decode cc pc = .ok (.iastore, 1)) (hnx : pcs (j + 1) = pc + 1) (hty : ∃ cA, tys[0]? = some (cA, .int)) (hn : am_iir st (fun v i x r => am_ai (h.1 x) 0 i (fun n f => if x = 0 then none else some (j + 1, lv, r, am_put h x (.inl (0, n, .inl (upd f i.toNatClampNeg v)))))) = some X) (hB : am_B D cl tys b c0 L xs s h0 nL h lv H locs ls cells slots) (K : am_K p l e R s m args below meth c Q D cl tys b c0 L xs h0 nL pcs X) : W p l e R s m args below meth c H locs cells slots Q (F0 m pc ls (st.map (am_r b c0))) := by
  unfold am_iir at hn
  split at hn
  · rename_i v i x r
    dsimp only at hn
    unfold am_ai at hn
    split at hn
    · rename_i u n f hx
      split at hn
      · rename_i hu
        subst hu
        split at hn
        · cases hn
        · rename_i hin
          dsimp only at hn
          split at hn
          · cases hn
          · rename_i hx0
            cases hn
            obtain ⟨cA, hcA⟩ := hty
            have hlt : i.toNatClampNeg < n := Nat.not_le.mp fun q => hin (Or.inr q)
            obtain ⟨⟨h1, h2⟩, q, hq, h3⟩ := hB.1.inl hx hx0
            cases hcA.symm.trans hq
            show W p l e R s m args below meth c H locs cells slots Q (F0 m pc ls (.int v :: .int i :: .ref (am_ad b c0 x) :: r.map (am_r b c0)))
            rw [am_adp h1]
            refine W.iast C.1 C.2.1 h3 ((hB.1.2.2.1.2 _ _ hcA).1 n (fun j => .int (f j))) (fun q => by cases q) (by show ¬ (i < 0 ∨ (arrV _ _ _).slots.size ≤ _); rw [arrV_size]; exact hin) rfl rfl hd fun H1 e1 e2 e3 => ?_
            have k9 := K _ _ _ _ _ (hB.put (k := i.toNatClampNeg) (E := .inl (0, n, .inl (upd f i.toNatClampNeg v))) h1 h2 e2 e3 ⟨_, hcA, by
              rw [e1]
              show some (Cell.setSlot (vp_cell cA (n, .inl f)) _ _) = some (vp_cell cA (n, .inl (upd f i.toNatClampNeg v)))
              rw [vp_cell_i, vp_cell_i, arrV_store]
              congr 2
              funext q
              by_cases hq : q = i.toNatClampNeg
              · subst hq
                simp [updV, upd]
                try rfl
              · simp [updV, upd, hq]⟩)
            dsimp only at k9
            rw [hnx] at k9
            exact k9
      · cases hn
    · cases hn
  · cases hn
theorem am_w_lastore (C : CallFix p m c cc nL s args Tb own) (hd : decode cc pc = .ok (.lastore, 1)) (hnx : pcs (j + 1) = pc + 1) (hty : ∃ cA, tys[1]? = some (cA, .long)) (hn : am_lir st (fun v i x r => am_al (h.1 x) 1 i (fun n f => if x = 0 then none else some (j + 1, lv, r, am_put h x (.inl (1, n, .inr (.inl (vp_updL f i.toNatClampNeg v))))))) = some X) (hB : am_B D cl tys b c0 L xs s h0 nL h lv H locs ls cells slots) (K : am_K p l e R s m args below meth c Q D cl tys b c0 L xs h0 nL pcs X) : W p l e R s m args below meth c H locs cells slots Q (F0 m pc ls (st.map (am_r b c0))) := by
  unfold am_lir at hn
  split at hn
  · rename_i v i x r
    dsimp only at hn
    unfold am_al at hn
    split at hn
    · rename_i u n f hx
      split at hn
      · rename_i hu
        subst hu
        split at hn
        · cases hn
        · rename_i hin
          dsimp only at hn
          split at hn
          · cases hn
          · rename_i hx0
            cases hn
            obtain ⟨cA, hcA⟩ := hty
            have hlt : i.toNatClampNeg < n := Nat.not_le.mp fun q => hin (Or.inr q)
            obtain ⟨⟨h1, h2⟩, q, hq, h3⟩ := hB.1.inl hx hx0
            cases hcA.symm.trans hq
            show W p l e R s m args below meth c H locs cells slots Q (F0 m pc ls (.long v :: .int i :: .ref (am_ad b c0 x) :: r.map (am_r b c0)))
            rw [am_adp h1]
            refine W.last C.1 C.2.1 h3 ((hB.1.2.2.1.2 _ _ hcA).1 n (fun j => .long (f j))) (fun q => by cases q) (by show ¬ (i < 0 ∨ (arrV _ _ _).slots.size ≤ _); rw [arrV_size]; exact hin) rfl rfl hd fun H1 e1 e2 e3 => ?_
            have k9 := K _ _ _ _ _ (hB.put (k := i.toNatClampNeg) (E := .inl (1, n, .inr (.inl (vp_updL f i.toNatClampNeg v)))) h1 h2 e2 e3 ⟨_, hcA, by
              rw [e1]
              show some (Cell.setSlot (vp_cell cA (n, .inr (.inl f))) _ _) = some (vp_cell cA (n, .inr (.inl (vp_updL f i.toNatClampNeg v))))
              rw [vp_cell_l, vp_cell_l, arrV_store]
              congr 2
              funext q
              by_cases hq : q = i.toNatClampNeg
              · subst hq
                simp [updV, vp_updL]
                try rfl
              · simp [updV, vp_updL, hq]⟩)
            dsimp only at k9
            rw [hnx] at k9
            exact k9
      · cases hn
    · cases hn
  · cases hn
theorem am_w_arraylength (C : CallFix p m c cc nL s args Tb own) (hd : decode cc pc = .ok (.arraylength, 1)) (hnx : pcs (j + 1) = pc + 1) (hn : am_r1 st (fun x r => am_al0 (h.1 x) (fun n => some (j + 1, lv, .int (Int32.ofNat n) :: r, h))) = some X) (hB : am_B D cl tys b c0 L xs s h0 nL h lv H locs ls cells slots) (K : am_K p l e R s m args below meth c Q D cl tys b c0 L xs h0 nL pcs X) : W p l e R s m args below meth c H locs cells slots Q (F0 m pc ls (st.map (am_r b c0))) := by
  unfold am_r1 at hn
  split at hn
  · rename_i x r
    dsimp only at hn
    unfold am_al0 at hn
    split at hn
    · rename_i u n f hx
      cases hn
      have k9 := K _ _ _ _ _ hB
      dsimp only at k9
      rw [hnx] at k9
      by_cases hx0 : x = 0
      · subst hx0
        obtain ⟨-, ⟨z1, scr, z2, z3, z4, z5, z6⟩, -⟩ := hB.1
        rw [z1] at hx
        cases hx
        exact W.alen (n := Int32.ofNat L) C.1 C.2.1 z2 z3 (by rw [z5] <;> rfl) rfl rfl hd k9
      · obtain ⟨⟨h1, h2⟩, q, hq, h3⟩ := hB.1.inl hx hx0
        show W p l e R s m args below meth c H locs cells slots Q (F0 m pc ls (.ref (am_ad b c0 x) :: r.map (am_r b c0)))
        rw [am_adp h1]
        have ho : ∀ z : Nat → Value, s.isArrayOf (arrV q.1 n z) q.2 := (hB.1.2.2.1.2 _ _ hq).1 n
        obtain f | f | f | f | f := f
        · exact W.alen (n := Int32.ofNat n) C.1 C.2.1 h3 (ho (fun j => .int (f j))) (by show (arrV _ _ _).slots.size.toInt32 = _; rw [arrV_size] <;> rfl) rfl rfl hd k9
        · exact W.alen (n := Int32.ofNat n) C.1 C.2.1 h3 (ho (fun j => .long (f j))) (by show (arrV _ _ _).slots.size.toInt32 = _; rw [arrV_size] <;> rfl) rfl rfl hd k9
        · exact W.alen (n := Int32.ofNat n) C.1 C.2.1 h3 (ho (fun j => .float (f j))) (by show (arrV _ _ _).slots.size.toInt32 = _; rw [arrV_size] <;> rfl) rfl rfl hd k9
        · exact W.alen (n := Int32.ofNat n) C.1 C.2.1 h3 (ho (fun j => .double (f j))) (by show (arrV _ _ _).slots.size.toInt32 = _; rw [arrV_size] <;> rfl) rfl rfl hd k9
        · exact W.alen (n := Int32.ofNat n) C.1 C.2.1 h3 (ho (fun j => va_rf ((f j).map (am_ad b c0)))) (by show (arrV _ _ _).slots.size.toInt32 = _; rw [arrV_size] <;> rfl) rfl rfl hd k9
    · cases hn
  · cases hn
theorem am_B.mk {E : am_E} {k : Nat} {H1 : Heap} (hB : am_B D cl tys b c0 L xs s h0 nL h lv H locs ls cells slots) (hz : H1.size = H.size + 1) (hq : ∀ q, q < H.size → H1[q]? = H[q]?) (hE : am_at D cl tys b c0 h.2.1 E H1) : am_B D cl tys b c0 L xs s h0 nL (am_mk h E k) lv H1 locs ls (cells + 1) (slots + k) := by
  obtain ⟨h1, h2, h3, h4, h5, h6⟩ := hB
  have hs := h1.1.1
  refine ⟨h1.mk hz hq hE, h2, fun q hq' => (hq q (by have := h1.1.2.1; omega)).trans (h3 q hq'), h4, ?_, ?_⟩
  · show h.2.1 + 1 = _
    omega
  · show h.2.2 + k = _
    omega
theorem am_w_newarray {at1 : ArrayType} {t : Nat} (C : CallFix p m c cc nL s args Tb own) (hd : decode cc pc = .ok (.newarray at1, 2)) (hnx : pcs (j + 1) = pc + 2) (hty : ∃ cA, tys[t]? = some (cA, newarray.typeOf at1)) (hw : Jvm.Cond.arrayClass (newarray.typeOf at1) ∈ Tb) (hz : ∀ cA N, vp_cell cA (N, am_zero t) = arrV cA N (fun _ => defaultValue (newarray.typeOf at1))) (hby : componentBytes (newarray.typeOf at1) ≤ 8) (hn : am_i1 st (fun n r => if n < 0 ∨ 1000000 < n.toNatClampNeg then none else some (j + 1, lv, .ref h.2.1 :: r, am_mk h (.inl (t, n.toNatClampNeg, am_zero t)) n.toNatClampNeg)) = some X) (hr : X.2.2.2.2.1 ≤ h0.2.1 + R.cells ∧ X.2.2.2.2.2 ≤ h0.2.2 + R.slots) (hB : am_B D cl tys b c0 L xs s h0 nL h lv H locs ls cells slots) (K : am_K p l e R s m args below meth c Q D cl tys b c0 L xs h0 nL pcs X) : W p l e R s m args below meth c H locs cells slots Q (F0 m pc ls (st.map (am_r b c0))) := by
  unfold am_i1 at hn
  split at hn
  · rename_i n r
    dsimp only at hn
    split at hn
    · cases hn
    · rename_i hc
      cases hn
      have e5 := hB.2.2.2.2.1
      have e6 := hB.2.2.2.2.2
      have hr1 : h.2.1 + 1 ≤ h0.2.1 + R.cells := hr.1
      have hr2 : h.2.2 + n.toNatClampNeg ≤ h0.2.2 + R.slots := hr.2
      have e1 := hB.1.1.1
      have e2 := hB.1.1.2.1
      obtain ⟨cA, hcA⟩ := hty
      refine va_newaK C.1 C.2.1 (C.2.2.2.2 _ hw) rfl hd rfl (fun q => hc (Or.inl q)) rfl (by have : n.toNatClampNeg ≤ 1000000 := Nat.not_lt.mp (fun q => hc (Or.inr q)); have := Nat.mul_le_mul this hby; omega) (by omega) (by omega) rfl fun H1 cA2 g1 g2 g3 g4 g5 => ?_
      have hca : cA2 = cA := by
        have h7 := (hB.1.2.2.1.2 _ _ hcA).2
        have h8 : s.vm.findClass ("[" ++ (newarray.typeOf at1).toString) = some cA := by cases at1 <;> exact h7
        exact Option.some.inj (g5.symm.trans h8)
      subst hca
      have k9 := K _ _ _ _ _ (hB.mk (k := n.toNatClampNeg) (E := .inl (t, n.toNatClampNeg, am_zero t)) g2 g3 ⟨_, hcA, by
        show H1[c0 + h.2.1]? = some (vp_cell cA2 (am_ra b c0 (n.toNatClampNeg, am_zero t)))
        rw [show am_ra b c0 (n.toNatClampNeg, am_zero t) = (n.toNatClampNeg, am_zero t) by unfold am_zero; split <;> rfl, hz, ← e1]
        exact g1⟩)
      dsimp only at k9
      rw [hnx] at k9
      have e9 : am_r b c0 (.ref h.2.1) = .ref H.size := by
        show Value.ref (am_ad b c0 h.2.1) = _
        rw [am_adp e2, e1]
      have k8 : W p l e R s m args below meth c H1 locs (cells + 1) (slots + n.toNatClampNeg) Q (F0 m (pc + 2) ls (am_r b c0 (.ref h.2.1) :: r.map (am_r b c0))) := k9
      rw [e9] at k8
      exact k8
  · cases hn
theorem am_w_new {idx a N : Nat} {Cn : String} {T : u_T} {df : Nat → List Value} (C : CallFix p m c cc nL s args Tb own) (hd : decode cc pc = .ok (.new idx, 3)) (hnx : pcs (j + 1) = pc + 3) (hc : cl[a]? = some (Cn, T, N)) (hin : ∀ w ∈ u_ws Cn T N, w ∈ Tb) (ty0 : Nat → FieldType) (hty : ∀ k, k < N → parseFieldDescriptor (T k).2.2.1 = some (ty0 k)) (hln : Jvm.Cond.classLink own idx Cn ∈ Tb) (hins : Jvm.Cond.instantiable Cn N ∈ Tb) (hini : Jvm.Cond.initialized Cn ∈ Tb) (hdl : (df a).length = N) (hdf : ∀ k, k < N → (df a)[k]? = some (defaultValue (ty0 k))) (hn : some (j + 1, lv, .ref h.2.1 :: st, am_mk h (.inr (a, df a)) (df a).length) = some X) (hr : X.2.2.2.2.1 ≤ h0.2.1 + R.cells ∧ X.2.2.2.2.2 ≤ h0.2.2 + R.slots) (hB : am_B D cl tys b c0 L xs s h0 nL h lv H locs ls cells slots) (K : am_K p l e R s m args below meth c Q D cl tys b c0 L xs h0 nL pcs X) : W p l e R s m args below meth c H locs cells slots Q (F0 m pc ls (st.map (am_r b c0))) := by
  cases hn
  have e5 := hB.2.2.2.2.1
  have e6 := hB.2.2.2.2.2
  have hr1 : h.2.1 + 1 ≤ h0.2.1 + R.cells := hr.1
  have hr2 : h.2.2 + (df a).length ≤ h0.2.2 + R.slots := hr.2
  rw [hdl] at hr2
  have e1 := hB.1.1.1
  have e2 := hB.1.1.2.1
  have hKn := hB.1.2.2.1.1 a _ hc
  refine W.newcK C.1 C.2.1 C.2.2.2.1 (C.2.2.2.2 _ hln) (C.2.2.2.2 _ hins) (C.2.2.2.2 _ hini) rfl hd (by omega) (by omega) hKn.2.1 rfl fun H1 kC hkC g1 g2 g3 => ?_
  have hob := (u_born ty0 C.2.2.2.2 hin hKn hkC g1 hty).to (V' := vp_V ((df a).map (am_r b c0))) (fun k hk => by
    show _ = ((df a).map (am_r b c0)).getD k .null
    rw [List.getD_eq_getElem?_getD, List.getElem?_map, hdf k hk]
    show _ = am_r b c0 (defaultValue (ty0 k))
    cases ty0 k <;> rfl)
  rw [e1] at hob
  have k9 := K _ _ _ _ _ (hB.mk (k := (df a).length) (E := .inr (a, df a)) g2 g3 ⟨_, hc, hob⟩)
  dsimp only at k9
  rw [hnx, hdl] at k9
  have e9 : am_r b c0 (.ref h.2.1) = .ref H.size := by
    show Value.ref (am_ad b c0 h.2.1) = _
    rw [am_adp e2, e1]
  have k8 : W p l e R s m args below meth c H1 locs (cells + 1) (slots + N) Q (F0 m (pc + 3) ls (am_r b c0 (.ref h.2.1) :: st.map (am_r b c0))) := k9
  rw [e9] at k8
  exact k8
theorem am_w_objInit {idx : Nat} (C : CallFix p m c cc nL s args Tb own) (hd : decode cc pc = .ok (.invokespecial idx, 3)) (hnx : pcs (j + 1) = pc + 3) (hln : Jvm.Cond.methodLink own idx Lib.objectInit ∈ Tb) (hi : Jvm.Cond.instanceMethod Lib.objectInit ∈ Tb) (hco : Jvm.Cond.code Lib.objectInit ⟨#[0xb1]⟩ 1 none ∈ Tb) (hfr : 1 ≤ R.frames) (hlo : 20 ≤ R.locals) (hn : am_r1 st (fun _ r => if (r.map fun v => v.category).sum ≤ 8 then some (j + 1, lv, r, h) else none) = some X) (hB : am_B D cl tys b c0 L xs s h0 nL h lv H locs ls cells slots) (K : am_K p l e R s m args below meth c Q D cl tys b c0 L xs h0 nL pcs X) : W p l e R s m args below meth c H locs cells slots Q (F0 m pc ls (st.map (am_r b c0))) := by
  unfold am_r1 at hn
  split at hn
  · rename_i x r
    dsimp only at hn
    split at hn
    · rename_i hs
      cases hn
      have k9 := K _ _ _ _ _ hB
      dsimp only at k9
      rw [hnx] at k9
      have hs2 : ((r.map (am_r b c0)).map fun v => v.category).sum ≤ 8 := by rw [am_cats]; exact hs
      have hrm := lv_room (m := m) (pc := pc) (ls := ls) (rest := []) hs2
      refine W.objInit C.1 C.2.1 C.2.2.2.1 (C.2.2.2.2 _ hln) (C.2.2.2.2 _ hi) (C.2.2.2.2 _ hco) rfl (hB.2.1.1.trans C.2.2.1.symm) (a := am_ad b c0 x) (rest := r.map (am_r b c0)) rfl hd hfr ?_ k9
      have : ∀ a b : Nat, a ≤ 8 → a + 12 ≤ 20 := fun a b h => by omega
      exact Nat.le_trans (Nat.add_le_add_right hrm 12) hlo
    · cases hn
  · cases hn
end AMH
end
section
/-! Arrays of arrays of ints: 'multianewarray' of two dimensions. -/
def mu_o (c : ClassId) (N a i : Nat) : Cell := arrV c N (fun j => if j < i then .ref (a + 1 + j) else .null)
def mu_n (k : ClassId) (M : Nat) : Cell := arrV k M (fun _ => .int 0)
def mu_s (s : State) (c k : ClassId) (N M : Nat) : Nat → State
  | 0 => s.pushCell (mu_o c N s.heap.size 0)
  | i + 1 => ((mu_s s c k N M i).pushCell (mu_n k M)).setCell s.heap.size (mu_o c N s.heap.size (i + 1))
theorem mu_o_set (c : ClassId) (N a i : Nat) : (mu_o c N a i).setSlot i (.ref (a + 1 + i)) = mu_o c N a (i + 1) := by
  unfold mu_o
  rw [arrV_store]
  congr 1
  funext j
  unfold updV
  by_cases hj : j = i
  · subst hj
    rw [if_pos rfl, if_pos (Nat.lt_succ_self _)]
  · rw [if_neg hj]
    dsimp only
    by_cases hl : j < i
    · rw [if_pos hl, if_pos (by omega)]
    · rw [if_neg hl, if_neg (by omega)]
theorem mu_facts (s : State) (c k : ClassId) (N M : Nat) : ∀ i, (mu_s s c k N M i).heap.size = s.heap.size + 1 + i ∧ (mu_s s c k N M i).heap[s.heap.size]? = some (mu_o c N s.heap.size i) ∧ (mu_s s c k N M i).vm = s.vm ∧ (mu_s s c k N M i).slotsUsed = s.slotsUsed + N + i * M ∧ (∀ q, q < s.heap.size → (mu_s s c k N M i).heap[q]? = s.heap[q]?) ∧ ∀ j, j < i → (mu_s s c k N M i).heap[s.heap.size + 1 + j]? = some (mu_n k M)
  | 0 => ⟨by simp [mu_s], by simp [mu_s], rfl, by simp [mu_s, mu_o, arrV_size], fun q hq => State.heap_pushCell_of_lt _ _ hq, fun j hj => absurd hj (Nat.not_lt_zero _)⟩
  | i + 1 => by
    obtain ⟨a1, a2, a3, a4, a5, a6⟩ := mu_facts s c k N M i
    have hlt : s.heap.size < (mu_s s c k N M i).heap.size := by omega
    have hb : ((mu_s s c k N M i).pushCell (mu_n k M)).heap[s.heap.size]? = some (mu_o c N s.heap.size i) := by rw [State.heap_pushCell_of_lt (h := hlt)]; exact a2
    have ho : ∀ q, q ≠ s.heap.size → (mu_s s c k N M (i + 1)).heap[q]? = ((mu_s s c k N M i).pushCell (mu_n k M)).heap[q]? := fun q hq => heapAt_setCell_ne _ (Ne.symm hq)
    refine ⟨?_, State.heap_setCell_self hb, by simp [mu_s, a3], ?_, fun q hq => ?_, fun j hj => ?_⟩
    · show (((mu_s s c k N M i).pushCell (mu_n k M)).setCell _ _).heap.size = _
      rw [size_setCell, size_pushCell, a1]
      omega
    · show ((mu_s s c k N M i).pushCell (mu_n k M)).slotsUsed = _
      rw [State.slotsUsed_pushCell, a4, show (mu_n k M).slots.size = M from arrV_size _ _ _, Nat.succ_mul]
      omega
    · have hq2 : q < (mu_s s c k N M i).heap.size := by omega
      rw [ho q (by omega), State.heap_pushCell_of_lt (h := hq2)]
      exact a5 q hq
    · rw [ho _ (by omega)]
      by_cases hji : j = i
      · subst hji
        rw [← a1]
        exact State.heap_pushCell_size _ _
      · have hq2 : s.heap.size + 1 + j < (mu_s s c k N M i).heap.size := by omega
        rw [State.heap_pushCell_of_lt (h := hq2)]
        exact a6 j (by omega)
theorem mu_setTop (s : State) (f : JFrame) (c k : ClassId) (N M : Nat) : ∀ i, mu_s (s.setTop f) c k N M i = (mu_s s c k N M i).setTop f
  | 0 => rfl
  | i + 1 => by simp only [mu_s, mu_setTop s f c k N M i, State.heap_setTop, State.pushCell_setTop, State.setCell_setTop]
section MU
variable {E : CtlPost} {e : Env} {d : Bool} {acts : List Action} {s : State}
theorem mu_new {c comp : ClassId} {k : Class} {type : FieldType} {len : Nat} {init : Value} (hk : s.vm.classes[c]? = some k) (hkind : k.kind = .array comp type) (h1 : ¬ len > e.platform.arrayLengthLimit) (h2 : ¬ len * componentBytes type > e.platform.maxHeapBytes) (hfit : fits type init = true) (hdef : init.isDefault = true) {Q : Addr → Pre} (h3 : s.heap.size < e.platform.maxCells) (h4 : s.slotsUsed + len ≤ e.platform.maxSlots) (hq : Q s.heap.size d acts (s.pushCell (arrV c len (fun _ => init)))) : wp (Jvm.newArray c len init) Q E e d acts s := by
  rw [← arrV_new] at hq
  have hfits : ∀ i v, (Array.replicate len init)[i]? = some v → s.fitsSlot c .none i v = true := by
    intro i v hv
    rw [Array.getElem?_replicate] at hv
    split at hv
    · cases hv
      simp [State.fitsSlot, State.slotType?, hk, hkind, hfit]
    · cases hv
  have hda : allocActs (Array.replicate len init) s.heap.size acts = acts := by
    unfold allocActs
    rw [if_pos (by rw [Array.all_replicate]; split <;> simp [hdef])]
  simp only [Jvm.newArray, Jvm.arrayFits, wp_bind', W.ask, W.ite, h1, if_false, wp_pure', W.theClass, hk, hkind, h2, W.alloc, W.stop, Option.some.injEq, exists_eq_left', Array.size_replicate, hda]
  rw [if_neg (by omega)]
  exact ⟨h3, h4, hfits, hq⟩
theorem mu_make {c k1 k2 : ClassId} {K K1 : Class} {n m : Int32} (hK : s.vm.classes[c]? = some K) (hkind : K.kind = .array k1 (.array .int)) (hK1 : s.vm.classes[k1]? = some K1) (hkind1 : K1.kind = .array k2 .int) (hn : ¬ n < 0) (hm : ¬ m < 0)
    (hl1 : ¬ n.toNatClampNeg > e.platform.arrayLengthLimit) (hh1 : ¬ n.toNatClampNeg * componentBytes (.array .int) > e.platform.maxHeapBytes) (hl2 : ¬ m.toNatClampNeg > e.platform.arrayLengthLimit) (hh2 : ¬ m.toNatClampNeg * componentBytes .int > e.platform.maxHeapBytes)
    (hc : s.heap.size + 1 + n.toNatClampNeg ≤ e.platform.maxCells) (hs : s.slotsUsed + n.toNatClampNeg + n.toNatClampNeg * m.toNatClampNeg ≤ e.platform.maxSlots) {Q : Addr → Pre} (hq : ∀ d' acts', Q s.heap.size d' acts' (mu_s s c k1 n.toNatClampNeg m.toNatClampNeg n.toNatClampNeg)) : wp (Op.multianewarray.make c [n, m]) Q E e d acts s := by
  have hfind : ([m].find? (· < 0)) = none := by simp [hm]
  rw [Op.multianewarray.make]
  simp only [wp_bind', W.ite, hn, if_false, wp_pure', W.theClass, hK, hkind, Option.some.injEq, exists_eq_left']
  refine mu_new hK hkind hl1 hh1 rfl rfl (by omega) (by have := Nat.zero_le (n.toNatClampNeg * m.toNatClampNeg); omega) ?_
  simp only [hfind]
  rw [ite_self, wp_bind', Std.Legacy.Range.forIn_eq_forIn_range']
  have hsz : ([:n.toNatClampNeg] : Std.Legacy.Range).size = n.toNatClampNeg := by simp [Std.Legacy.Range.size]
  rw [hsz]
  show wp (forIn (List.range' 0 n.toNatClampNeg 1) PUnit.unit _) _ E e d acts _
  have e0 : arrV c n.toNatClampNeg (fun _ => Value.null) = mu_o c n.toNatClampNeg s.heap.size 0 := by
    unfold mu_o
    congr 1
  rw [e0]
  refine wp_forIn_inv (fun rest s' => ∃ i, i ≤ n.toNatClampNeg ∧ rest = List.range' i (n.toNatClampNeg - i) ∧ s' = mu_s s c k1 n.toNatClampNeg m.toNatClampNeg i) _ _ ⟨0, Nat.zero_le _, rfl, rfl⟩ ?_ ?_
  · rintro x rest s' d' acts' Q' ⟨i, hi, hl, rfl⟩ hnext
    have hlt : i < n.toNatClampNeg := by
      rcases Nat.lt_or_ge i n.toNatClampNeg with h | h
      · exact h
      · rw [show n.toNatClampNeg - i = 0 by omega] at hl
        simp at hl
    obtain ⟨rfl, hrest⟩ : x = i ∧ rest = List.range' (i + 1) (n.toNatClampNeg - (i + 1)) := by
      rw [show n.toNatClampNeg - i = (n.toNatClampNeg - (i + 1)) + 1 by omega, List.range'_succ] at hl
      exact List.cons.inj hl
    obtain ⟨f1, f2, f3, f4, -, -⟩ := mu_facts s c k1 n.toNatClampNeg m.toNatClampNeg x
    have hmul : x * m.toNatClampNeg + m.toNatClampNeg ≤ n.toNatClampNeg * m.toNatClampNeg := by
      have := Nat.mul_le_mul_right m.toNatClampNeg (show x + 1 ≤ n.toNatClampNeg from hlt)
      rw [Nat.succ_mul] at this
      exact this
    simp only [wp_bind']
    rw [Op.multianewarray.make]
    simp only [wp_bind', W.ite, hm, if_false, wp_pure', W.theClass, f3, hK1, hkind1, Option.some.injEq, exists_eq_left']
    refine mu_new (type := .int) (comp := k2) (by rw [f3]; exact hK1) hkind1 hl2 hh2 rfl rfl (by rw [f1]; omega) (by rw [f4]; omega) ?_
    have hlt0 : s.heap.size < (mu_s s c k1 n.toNatClampNeg m.toNatClampNeg x).heap.size := by rw [f1]; omega
    simp only [wp_bind', W.writeLoc, wp_pure']
    refine ⟨mu_o c n.toNatClampNeg s.heap.size x, by rw [State.heap_pushCell_of_lt (h := hlt0)]; exact f2, (fun q => by cases q), by show _ < (arrV _ _ _).slots.size; rw [arrV_size]; exact hlt, ?_, hnext _ _ _ ⟨x + 1, hlt, hrest, ?_⟩⟩
    · show State.fitsSlot _ c .none x _ = true
      simp [State.fitsSlot, State.slotType?, f3, hK, hkind, fits]
    · rw [f1, mu_o_set]
      rfl
  · rintro s' d' acts' ⟨i, hi, hl, rfl⟩
    have hiN : i = n.toNatClampNeg := by
      rcases Nat.lt_or_ge i n.toNatClampNeg with h | h
      · rw [show n.toNatClampNeg - i = (n.toNatClampNeg - (i + 1)) + 1 by omega, List.range'_succ] at hl
        cases hl
      · omega
    rw [hiN]
    simp only [wp_pure']
    exact hq _ _
end MU
section AMM
variable {p : Program} {l : Launch} {e : Env} {R : Room} {s : State} {m : MethodId} {args : Array Value} {below : List Frame} {meth : Method} {c : Code} {Q : State → Prop}
variable {cc : ByteArray} {D : va_G} {cl : List vw_C} {tys : List (ClassId × FieldType)} {b c0 L : Nat} {xs : Nat → Int32} {h0 h : am_H} {nL : Nat} {pcs : Nat → Nat} {own : String} {Tb : List Jvm.Cond}
variable {T : State} {H : Heap} {locs : List Loc} {ls : Array Slot} {cells slots : Nat} {lv : am_L} {st rest : List Value} {j pc : Nat} {X : am_C}
theorem mu_stand (S : Stand p l e R s m args below meth c T locs cells slots) (cA k : ClassId) (N M : Nat) : ∀ i, Stand p l e R s m args below meth c (mu_s T cA k N M i) (locs ++ (List.range i).map fun j => ⟨T.heap.size, j⟩) (cells + 1 + i) (slots + N + i * M)
  | 0 => by
    have h := S.pushed (mu_o cA N T.heap.size 0)
    rw [show (mu_o cA N T.heap.size 0).slots.size = N from arrV_size _ _ _] at h
    simpa [mu_s] using h
  | i + 1 => by
    have Si := mu_stand S cA k N M i
    obtain ⟨f1, f2, -, -, -, -⟩ := mu_facts T cA k N M i
    have hlt0 : T.heap.size < (mu_s T cA k N M i).heap.size := by rw [f1]; omega
    have hcell : ((mu_s T cA k N M i).pushCell (mu_n k M)).heap[T.heap.size]? = some (mu_o cA N T.heap.size i) := by rw [State.heap_pushCell_of_lt (h := hlt0)]; exact f2
    have h := (Si.pushed (mu_n k M)).stored hcell i (.ref (T.heap.size + 1 + i))
    rw [mu_o_set, show (mu_n k M).slots.size = M from arrV_size _ _ _] at h
    have e2 : (locs ++ (List.range (i + 1)).map fun j => (⟨T.heap.size, j⟩ : Loc)) = (locs ++ (List.range i).map fun j => (⟨T.heap.size, j⟩ : Loc)) ++ [⟨T.heap.size, i⟩] := by simp [List.range_succ, List.append_assoc]
    have e3 : slots + N + (i + 1) * M = slots + N + i * M + M := by rw [Nat.succ_mul]; omega
    rw [e2, e3]
    exact h
/-- the row: the outer array comes first, its rows behind it in order -/
theorem mu_W (hexec : p.tables.exec = Jvm.exec) (hb : c.code = cc) {idx : Nat} (hown : s.vm.findClass own = some m.cls) (hclink : (Jvm.Cond.classLink own idx "[[I").before args s = true) (hover : (Jvm.Cond.arrayOver (.array .int)).before args s = true) (harr : (Jvm.Cond.arrayClass .int).before args s = true)
    (hdg : decode cc pc = .ok (.multianewarray idx 2, 4)) {n k : Int32} (hn : ¬ n < 0) (hk : ¬ k < 0) (hn2 : n.toNatClampNeg ≤ 1000) (hk2 : k.toNatClampNeg ≤ 1000000) (hcells : cells + (1 + n.toNatClampNeg) ≤ R.cells) (hslots : slots + (n.toNatClampNeg + n.toNatClampNeg * k.toNatClampNeg) ≤ R.slots)
    (kk : ∀ (H1 : Heap) (cA k1 : ClassId), s.vm.findClass "[[I" = some cA → s.vm.findClass "[I" = some k1 → H1.size = H.size + 1 + n.toNatClampNeg → H1[H.size]? = some (mu_o cA n.toNatClampNeg H.size n.toNatClampNeg) → (∀ q, q < H.size → H1[q]? = H[q]?) → (∀ j, j < n.toNatClampNeg → H1[H.size + 1 + j]? = some (mu_n k1 k.toNatClampNeg)) →
      W p l e R s m args below meth c H1 (locs ++ (List.range n.toNatClampNeg).map fun j => ⟨H.size, j⟩) (cells + 1 + n.toNatClampNeg) (slots + n.toNatClampNeg + n.toNatClampNeg * k.toNatClampNeg) Q (F0 m (pc + 4) ls (.ref H.size :: rest))) : W p l e R s m args below meth c H locs cells slots Q (F0 m pc ls (.int k :: .int n :: rest)) := by
  intro T hT X
  subst hT
  subst hb
  have hpl : e.platform.magicAccessors = ({} : Platform).magicAccessors := by rw [X.admits.platform]
  obtain ⟨comp, cA, kA, hcomp, -, hkA, hkindA, hnameA⟩ := arrayOverA_spec hover
  obtain ⟨comp', kC, cc', hcomp', hkC, hkindC⟩ := Cond.arrayClass_spec harr
  have ecomp : comp' = comp := Option.some.inj (hcomp'.symm.trans hcomp)
  subst ecomp
  obtain ⟨c1, hfc0, hcl⟩ := Cond.classLink_spec hown hclink e.platform hpl
  cases hnameA.symm.trans hfc0
  obtain ⟨hg₁, hwarm₁, hready₁⟩ := State.classEntry (e := e) X.warmed hcl
  have hsz0 : ∀ v, (T.setVm v).heap.size = T.heap.size := fun v => rfl
  generalize T.vm.noted m.cls idx (.cls cA) = vm₁ at hg₁ hwarm₁ hready₁
  have hal : s.vm.Alike vm₁ := hwarm₁.alike
  obtain ⟨kA₁, hkA₁, heA⟩ := hal.2.2 _ _ hkA
  obtain ⟨kC₁, hkC₁, heC⟩ := hal.2.2 _ _ hkC
  have hkindA₁ : kA₁.kind = .array comp' (.array .int) := by rw [heA]; exact hkindA
  have hkindC₁ : kC₁.kind = .array cc' .int := by rw [heC]; exact hkindC
  have X₁ := X.noted hwarm₁
  obtain ⟨hr1, hr2⟩ := X.roomAbove hcells hslots
  have XF := mu_stand X₁ cA comp' n.toNatClampNeg k.toNatClampNeg n.toNatClampNeg
  obtain ⟨f1, f2, -, -, f5, f6⟩ := mu_facts (T.setVm vm₁) cA comp' n.toNatClampNeg k.toNatClampNeg n.toNatClampNeg
  obtain ⟨t, a1, b1⟩ := kk _ cA comp' hnameA hcomp f1 f2 f5 f6 _ rfl XF
  refine ⟨t, ?_, b1⟩
  have hl1 : ¬ n.toNatClampNeg > e.platform.arrayLengthLimit := by rw [Launch.admits_arrayLengthLimit X.admits]; omega
  have hh1 : ¬ n.toNatClampNeg * componentBytes (.array .int) > e.platform.maxHeapBytes := by
    rw [Launch.admits_maxHeapBytes X.admits]; show ¬ n.toNatClampNeg * 4 > 536870912; omega
  have hl2 : ¬ k.toNatClampNeg > e.platform.arrayLengthLimit := by rw [Launch.admits_arrayLengthLimit X.admits]; omega
  have hh2 : ¬ k.toNatClampNeg * componentBytes .int > e.platform.maxHeapBytes := by
    rw [Launch.admits_maxHeapBytes X.admits]; show ¬ k.toNatClampNeg * 4 > 536870912; omega
  jvm_step X.here [hexec, hdg]
  simp only [Op.multianewarray.sem, wp_bind', W.resolveClassAt_links (State.method?_setTop (F0 m pc ls (.int k :: .int n :: rest)) X.here.top) hg₁]
  rw [W.popN, if_neg (by decide)]
  refine ⟨F0 m pc ls (.int k :: .int n :: rest), State.topJava?_setTop' (s := T.setVm vm₁) _ X.here.top, [.int n, .int k], rest, rfl, rfl, ?_⟩
  simp only [List.mapM_cons, List.mapM_nil, wp_bind', wp_pure']
  refine mu_make (K := kA₁) (K1 := kC₁) (k1 := comp') (k2 := cc') hkA₁ hkindA₁ hkC₁ hkindC₁ hn hk hl1 hh1 hl2 hh2 (by show T.heap.size + 1 + _ ≤ _; omega) (by show T.slotsUsed + _ + _ ≤ _; omega) (fun d' acts' => ?_)
  have eS : ((T.setTop (F0 m pc ls (.int k :: .int n :: rest))).setVm vm₁).setTop { F0 m pc ls (.int k :: .int n :: rest) with stack := rest } = (T.setVm vm₁).setTop { F0 m pc ls (.int k :: .int n :: rest) with stack := rest } := by
    show ((T.setVm vm₁).setTop _).setTop _ = _
    rw [State.setTop_setTop]
  rw [eS, mu_setTop]
  simp only [wp_bind', W.mark, W.pushRef, State.topJava?_setTop' _ XF.here.top, Option.some.injEq, exists_eq_left', State.setTop_setTop, State.heap_setTop]
  intro acts
  simp [jvm, XF.here.top]
  exact a1
theorem am_w_multi {idx t : Nat} (C : CallFix p m c cc nL s args Tb own) (hd : decode cc pc = .ok (.multianewarray idx 2, 4)) (hnx : pcs (j + 1) = pc + 4) (hty0 : ∃ cA, tys[0]? = some (cA, .int)) (hty : ∃ cA, tys[t]? = some (cA, .array .int)) (hw1 : Jvm.Cond.classLink own idx "[[I" ∈ Tb) (hw2 : Jvm.Cond.arrayOver (.array .int) ∈ Tb) (hw3 : Jvm.Cond.arrayClass .int ∈ Tb) (hn : am_i2 st (fun n k r => if n < 0 ∨ 1000 < n.toNatClampNeg ∨ k < 0 ∨ 1000000 < k.toNatClampNeg then none else some (j + 1, lv, .ref h.2.1 :: r, am_mk2 h t 0 n.toNatClampNeg k.toNatClampNeg (am_zero 0))) = some X) (hr : X.2.2.2.2.1 ≤ h0.2.1 + R.cells ∧ X.2.2.2.2.2 ≤ h0.2.2 + R.slots) (hB : am_B D cl tys b c0 L xs s h0 nL h lv H locs ls cells slots) (K : am_K p l e R s m args below meth c Q D cl tys b c0 L xs h0 nL pcs X) : W p l e R s m args below meth c H locs cells slots Q (F0 m pc ls (st.map (am_r b c0))) := by
  unfold am_i2 at hn
  split at hn
  · rename_i k n r
    dsimp only at hn
    split at hn
    · cases hn
    · rename_i hc
      cases hn
      obtain ⟨b1, b2, b3, b4, b5, b6⟩ := hB
      have e1 := b1.1.1
      have e2 := b1.1.2.1
      have e3 := b1.1.2.2
      have hr1 : h.2.1 + 1 + n.toNatClampNeg ≤ h0.2.1 + R.cells := hr.1
      have hr2 : h.2.2 + n.toNatClampNeg + n.toNatClampNeg * k.toNatClampNeg ≤ h0.2.2 + R.slots := hr.2
      obtain ⟨cI, hcI⟩ := hty0
      obtain ⟨cA, hcA⟩ := hty
      have q1 : s.vm.findClass "[I" = some cI := (b1.2.2.1.2 _ _ hcI).2
      have q2 : s.vm.findClass "[[I" = some cA := (b1.2.2.1.2 _ _ hcA).2
      refine mu_W C.1 C.2.1 C.2.2.2.1 (C.2.2.2.2 _ hw1) (C.2.2.2.2 _ hw2) (C.2.2.2.2 _ hw3) hd (fun q => hc (Or.inl q)) (fun q => hc (Or.inr (Or.inr (Or.inl q)))) (Nat.not_lt.mp (fun q => hc (Or.inr (Or.inl q)))) (Nat.not_lt.mp (fun q => hc (Or.inr (Or.inr (Or.inr q))))) (by omega) (by omega) (fun H1 cA2 k1 g1 g2 g3 g4 g5 g6 => ?_)
      cases q2.symm.trans g1
      cases q1.symm.trans g2
      have hin : ∀ i, i < n.toNatClampNeg → am_at D cl tys b c0 (h.2.1 + 1 + i) (.inl (0, k.toNatClampNeg, am_zero 0)) H1 := fun i hi => ⟨_, hcI, by
        have := g6 i hi
        rw [e1, show c0 + h.2.1 + 1 + i = c0 + (h.2.1 + 1 + i) by omega] at this
        exact this⟩
      have hout : am_at D cl tys b c0 h.2.1 (.inl (t, n.toNatClampNeg, .inr (.inr (.inr (.inr (fun i => if i < n.toNatClampNeg then some (h.2.1 + 1 + i) else none)))))) H1 := ⟨_, hcA, by
        rw [e1] at g4
        rw [g4]
        show some (mu_o _ _ _ _) = some (vp_cell cA (n.toNatClampNeg, .inr (.inr (.inr (.inr (fun j => Option.map (am_ad b c0) (if j < n.toNatClampNeg then some (h.2.1 + 1 + j) else none)))))))
        rw [vp_cell_q]
        unfold mu_o
        congr 2
        funext i
        by_cases hi : i < n.toNatClampNeg
        · rw [if_pos hi, if_pos hi]
          show _ = Value.ref (am_ad b c0 (h.2.1 + 1 + i))
          rw [am_adp (by omega)]
          exact congrArg Value.ref (by omega)
        · rw [if_neg hi, if_neg hi]
          rfl⟩
      have k9 := K H1 (locs ++ (List.range n.toNatClampNeg).map fun j => ⟨H.size, j⟩) ls (cells + 1 + n.toNatClampNeg) (slots + n.toNatClampNeg + n.toNatClampNeg * k.toNatClampNeg) ⟨b1.mk2 g3 g5 hout hin, b2, fun q hq => (g5 q (by omega)).trans (b3 q hq), fun x hx => by
        rcases List.mem_append.mp hx with hx | hx
        · exact b4 x hx
        · obtain ⟨i, -, rfl⟩ := List.mem_map.mp hx
          show c0 < H.size
          omega, by show h.2.1 + 1 + n.toNatClampNeg = _; omega, by show h.2.2 + n.toNatClampNeg + n.toNatClampNeg * k.toNatClampNeg = _; omega⟩
      dsimp only at k9
      rw [hnx] at k9
      have e9 : am_r b c0 (.ref h.2.1) = .ref H.size := by
        show Value.ref (am_ad b c0 h.2.1) = _
        rw [am_adp e2, e1]
      have k8 : W p l e R s m args below meth c H1 (locs ++ (List.range n.toNatClampNeg).map fun j => ⟨H.size, j⟩) (cells + 1 + n.toNatClampNeg) (slots + n.toNatClampNeg + n.toNatClampNeg * k.toNatClampNeg) Q (F0 m (pc + 4) ls (am_r b c0 (.ref h.2.1) :: r.map (am_r b c0))) := k9
      rw [e9] at k8
      exact k8
  · cases hn
end AMM
end
section
/-! The rows of a method are those of its bytes: a program decides it. -/
def am_pcs (code : List am_I) (j : Nat) : Nat := match code[j]? with
  | some e => am_pc e
  | none => 0
def am_fty (T : u_T) (k : Nat) : FieldType := (parseFieldDescriptor (T k).2.2.1).getD .int
/-- a call: the callee's words and what the call names -/
def am_okC (Tb : List Jvm.Cond) (MT : List am_M) (own : String) (e : am_I) (idx : Nat) (n : Nat) : Bool := match MT[am_a e]? with
  | some (y, bytes, maxL, ret, pos, _) => decide (Tb[pos.1]? = some (Jvm.Cond.code y bytes maxL ret)) && decide (Tb[pos.2.1]? = some (Jvm.Cond.initialized y.cls)) && decide (y.cls ≠ "java/lang/invoke/MethodHandle" ∧ y.cls ≠ "java/lang/invoke/VarHandle" ∧ (parseMethodDescriptor y.desc).map (fun d => d.parameters.length) = some n) && decide (maxL ≤ 17) && (match Tb[am_q e]? with
    | some (Jvm.Cond.methodLink o i y2) => decide (o = own ∧ i = idx ∧ y2 = y)
    | some (Jvm.Cond.methodLinkNest o i y2 _) => decide (o = own ∧ i = idx ∧ y2 = y)
    | _ => false)
  | none => false
def am_ok (Tb : List Jvm.Cond) (cl : List vw_C) (tyL : List FieldType) (MT : List am_M) (own nm : String) (cc : ByteArray) (nL : Nat) (ret : Option FieldType) (code : List am_I) (j : Nat) (e : am_I) : Bool :=
  let nx : Bool := decide (am_pcs code (j + 1) = am_pc e + am_len e)
  decide (decode cc (am_pc e) = .ok (am_op e, am_len e)) && (match am_op e with
  | .iconst nn => am_len e == 1 && nx
  | .bipush nn => am_len e == 2 && nx
  | .sipush nn => am_len e == 3 && nx
  | .lconst nn => am_len e == 1 && nx && decide (am_a e = (nn : Nat))
  | .ldc nn => am_len e == 2 && nx && decide (Tb[am_q e]? = some (Jvm.Cond.constant own nn (Int32.ofNat (am_a e))))
  | .ldc2_w nn => am_len e == 3 && nx && decide (Tb[am_q e]? = some (Jvm.Cond.constantLong own nn (Int64.ofNat (am_a e))))
  | .aconst_null => am_len e == 1 && nx
  | .iload_n nn => am_len e == 1 && nx && decide (am_a e = (nn : Nat))
  | .iload nn => am_len e == 2 && nx && decide (am_a e = nn)
  | .lload_n nn => am_len e == 1 && nx && decide (am_a e = (nn : Nat))
  | .lload nn => am_len e == 2 && nx && decide (am_a e = nn)
  | .aload_n nn => am_len e == 1 && nx && decide (am_a e = (nn : Nat))
  | .aload nn => am_len e == 2 && nx && decide (am_a e = nn)
  | .istore_n nn => am_len e == 1 && nx && decide ((nn : Nat) < nL) && decide (am_a e = (nn : Nat))
  | .istore nn => am_len e == 2 && nx && decide (nn < nL) && decide (am_a e = nn)
  | .lstore_n nn => am_len e == 1 && nx && decide ((nn : Nat) + 1 < nL) && decide (am_a e = (nn : Nat))
  | .lstore nn => am_len e == 2 && nx && decide (nn + 1 < nL) && decide (am_a e = nn)
  | .astore_n nn => am_len e == 1 && nx && decide ((nn : Nat) < nL) && decide (am_a e = (nn : Nat))
  | .astore nn => am_len e == 2 && nx && decide (nn < nL) && decide (am_a e = nn)
  | .iinc nn mm => am_len e == 3 && nx && decide (nn < nL)
  | .iadd => am_len e == 1 && nx
  | .isub => am_len e == 1 && nx
  | .imul => am_len e == 1 && nx
  | .iand => am_len e == 1 && nx
  | .ior => am_len e == 1 && nx
  | .ixor => am_len e == 1 && nx
  | .idiv => am_len e == 1 && nx
  | .irem => am_len e == 1 && nx
  | .ineg => am_len e == 1 && nx
  | .ishl => am_len e == 1 && nx
  | .ishr => am_len e == 1 && nx
  | .iushr => am_len e == 1 && nx
  | .ladd => am_len e == 1 && nx
  | .lsub => am_len e == 1 && nx
  | .lmul => am_len e == 1 && nx
  | .land => am_len e == 1 && nx
  | .lor => am_len e == 1 && nx
  | .lxor => am_len e == 1 && nx
  | .lshl => am_len e == 1 && nx
  | .lshr => am_len e == 1 && nx
  | .lushr => am_len e == 1 && nx
  | .lcmp => am_len e == 1 && nx
  | .i2l => am_len e == 1 && nx
  | .l2i => am_len e == 1 && nx
  | .i2b => am_len e == 1 && nx
  | .dup => am_len e == 1 && nx
  | .pop => am_len e == 1 && nx
  | .dup2 => am_len e == 1 && nx
  | .dup_x1 => am_len e == 1 && nx
  | .ifCond cd off => am_len e == 3 && nx && decide ((am_pc e : Int) + off = (am_pcs code (am_a e) : Int))
  | .if_icmp cd off => am_len e == 3 && nx && decide ((am_pc e : Int) + off = (am_pcs code (am_a e) : Int))
  | .goto off => am_len e == 3 && decide ((am_pc e : Int) + off = (am_pcs code (am_a e) : Int))
  | .ifnull off => am_len e == 3 && nx && decide ((am_pc e : Int) + off = (am_pcs code (am_a e) : Int))
  | .ifnonnull off => am_len e == 3 && nx && decide ((am_pc e : Int) + off = (am_pcs code (am_a e) : Int))
  | .getfield idx => am_len e == 3 && nx && decide (am_a e ≠ 1000000) && (match cl[am_a e]? with | some (_, T, N) => decide (am_b e < N) && decide (Tb[am_q e]? = some (Jvm.Cond.fieldLink own idx (T (am_b e)).1 (T (am_b e)).2.1 (T (am_b e)).2.2.1)) | none => false)
  | .putfield idx => am_len e == 3 && nx && decide (am_a e ≠ 1000000) && (match cl[am_a e]? with | some (_, T, N) => decide (am_b e < N) && decide (Tb[am_q e]? = some (Jvm.Cond.fieldLink own idx (T (am_b e)).1 (T (am_b e)).2.1 (T (am_b e)).2.2.1)) && decide (am_kt (am_fty T (am_b e)) = am_d e) && decide ((T (am_b e)).2.2.2 = false ∨ ((T (am_b e)).2.2.2 = true ∧ nm = "<init>" ∧ (T (am_b e)).1 = own)) | none => false)
  | .iaload => am_len e == 1 && nx && decide (tyL[0]? = some .int)
  | .laload => am_len e == 1 && nx && decide (tyL[1]? = some .long)
  | .baload => am_len e == 1 && nx && decide (tyL[2]? = some .byte) && decide (tyL[3]? = some .boolean)
  | .aaload => am_len e == 1 && nx
  | .iastore => am_len e == 1 && nx && decide (tyL[0]? = some .int)
  | .lastore => am_len e == 1 && nx && decide (tyL[1]? = some .long)
  | .bastore => am_len e == 1 && nx && decide (tyL[2]? = some .byte) && decide (tyL[3]? = some .boolean)
  | .arraylength => am_len e == 1 && nx
  | .newarray at1 => am_len e == 2 && nx && decide (tyL[am_a e]? = some (newarray.typeOf at1)) && decide (Tb[am_q e]? = some (Jvm.Cond.arrayClass (newarray.typeOf at1))) && (match at1 with | .int => am_a e == 0 | .long => am_a e == 1 | .byte => am_a e == 2 | .boolean => am_a e == 3 | _ => false)
  | .new idx => am_len e == 3 && nx && (match cl[am_a e]? with | some (Cn, _, _) => decide (Tb[am_q e]? = some (Jvm.Cond.classLink own idx Cn)) | none => false)
  | .multianewarray idx dd => am_len e == 4 && nx && decide (dd = 2) && decide (am_b e = 0) && decide (tyL[0]? = some .int) && decide (tyL[am_a e]? = some (.array .int)) && decide (Tb[am_q e]? = some (Jvm.Cond.classLink own idx "[[I")) && decide (Tb[am_c e]? = some (Jvm.Cond.arrayOver (.array .int))) && decide (Tb[am_d e]? = some (Jvm.Cond.arrayClass .int))
  | .ireturn => decide (am_len e = 1) && (match ret with | some ty => decide (am_kt ty = am_d e) | none => false)
  | .lreturn => decide (am_len e = 1) && decide (ret = some .long)
  | .areturn => decide (am_len e = 1) && (match ret with | some (.object _) => true | some (.array _) => true | _ => false)
  | .return_ => decide (am_len e = 1) && decide (ret = none)
  | .invokespecial idx => am_len e == 3 && nx && (if am_a e = 100000 then decide (Tb[am_q e]? = some (Jvm.Cond.methodLink own idx Lib.objectInit)) else decide (0 < am_b e) && am_okC Tb MT own e idx (am_b e - 1) && (match MT[am_a e]? with | some (y, _, _, rt, pos, _) => decide (y.name = "<init>") && decide (rt = none) && decide (Tb[pos.2.2.1]? = some (Jvm.Cond.instanceMethod y)) | none => false))
  | .invokestatic idx => am_len e == 3 && nx && am_okC Tb MT own e idx (am_b e) && (match MT[am_a e]? with | some (y, _, _, _, pos, _) => decide (Tb[pos.2.2.1]? = some (Jvm.Cond.static y)) | none => false)
  | .invokevirtual idx => am_len e == 3 && nx && decide (0 < am_b e) && am_okC Tb MT own e idx (am_b e - 1) && decide (am_c e ≠ 1000000) && (match MT[am_a e]?, cl[am_c e]? with | some (y, _, _, _, pos, _), some (Cn, _, _) => decide (Cn = y.cls) && decide (Tb[pos.2.2.1]? = some (Jvm.Cond.instanceMethod y)) && decide (Tb[pos.2.2.2]? = some (Jvm.Cond.selects Cn y y)) | _, _ => false)
  | _ => false)
def am_clok (Tb : List Jvm.Cond) (df : Nat → List Value) (ci : Nat) (Cn : String) (T : u_T) (N : Nat) : Prop :=
  (∀ w ∈ u_ws Cn T N, w ∈ Tb) ∧ (∀ k, k < N → parseFieldDescriptor (T k).2.2.1 = some (am_fty T k)) ∧ (∀ a, a < N → ∀ b, b < N → a ≠ b → (T a).2.1 ≠ (T b).2.1) ∧ Jvm.Cond.instantiable Cn N ∈ Tb ∧ Jvm.Cond.initialized Cn ∈ Tb ∧ (df ci).length = N ∧ ∀ k, k < N → (df ci)[k]? = some (defaultValue (am_fty T k))
def am_mok (Tb : List Jvm.Cond) (cl : List vw_C) (tyL : List FieldType) (MT : List am_M) (M : am_M) : Bool :=
  decide (plainName M.1.cls = true) && decide (Tb[M.2.2.2.2.1.1]? = some (Jvm.Cond.code M.1 M.2.1 M.2.2.1 M.2.2.2.1)) && decide (M.2.2.1 ≤ 17) && decide (am_pcs M.2.2.2.2.2 0 = 0) && (List.range M.2.2.2.2.2.length).all (fun j => match M.2.2.2.2.2[j]? with
    | some e => am_ok Tb cl tyL MT M.1.cls M.1.name M.2.1 M.2.2.1 M.2.2.2.1 M.2.2.2.2.2 j e
    | none => false)
def am_Good (Tb : List Jvm.Cond) (cl : List vw_C) (tyL : List FieldType) (df : Nat → List Value) (MT : List am_M) : Prop :=
  (∀ w ∈ Tb, goodWord w = true) ∧ (∀ ci Cn T N, cl[ci]? = some (Cn, T, N) → am_clok Tb df ci Cn T N) ∧ (∀ z M, MT[z]? = some M → am_mok Tb cl tyL MT M = true) ∧ Jvm.Cond.instanceMethod Lib.objectInit ∈ Tb ∧ Jvm.Cond.code Lib.objectInit ⟨#[0xb1]⟩ 1 none ∈ Tb ∧ ∀ t ty, 4 ≤ t → tyL[t]? = some ty → ty.isReference = true
theorem am_tyx {tyL : List FieldType} {tys : List (ClassId × FieldType)} {t : Nat} {ty : FieldType} (hT : tys.map (fun q => q.2) = tyL) (h : tyL[t]? = some ty) : ∃ cA, tys[t]? = some (cA, ty) := by
  rw [← hT, List.getElem?_map] at h
  cases hq : tys[t]? with
  | none => rw [hq] at h; cases h
  | some q =>
    rw [hq] at h
    obtain ⟨q1, q2⟩ := q
    simp only [Option.map_some, Option.some.injEq] at h
    subst h
    exact ⟨q1, rfl⟩
theorem am_tyr {tyL : List FieldType} {tys : List (ClassId × FieldType)} (hT : tys.map (fun q => q.2) = tyL) (h : ∀ t ty, 4 ≤ t → tyL[t]? = some ty → ty.isReference = true) : ∀ t q, 4 ≤ t → tys[t]? = some q → q.2.isReference = true := fun t q ht hq => h t q.2 ht (by rw [← hT, List.getElem?_map, hq]; rfl)
section AMD
variable {p : Program} {l : Launch} {e : Env} {R : Room} {s : State} {m : MethodId} {args : Array Value} {below : List Frame} {meth : Method} {c : Code} {Q : State → Prop}
variable {cc : ByteArray} {D : va_G} {cl : List vw_C} {tys : List (ClassId × FieldType)} {b c0 L : Nat} {xs : Nat → Int32} {h0 h : am_H} {nL : Nat} {own nm : String} {Tb : List Jvm.Cond}
variable {H : Heap} {locs : List Loc} {ls : Array Slot} {cells slots : Nat} {lv : am_L} {st rest : List Value} {j pc : Nat} {X : am_C}
variable {tyL : List FieldType} {df : Nat → List Value} {MT : List am_M} {ret : Option FieldType} {code : List am_I}
set_option maxHeartbeats 8000000 in
theorem am_simN (G : am_Good Tb cl tyL df MT) (hT : tys.map (fun q => q.2) = tyL) (C : CallFix p m c cc nL s args Tb own) (hnm : meth.name = nm) (hfr : 1 ≤ R.frames) (hlo : 20 ≤ R.locals) {E : am_I} (hk : am_kd E = 0) (hok : am_ok Tb cl tyL MT own nm cc nL ret code j E = true) (hn : am_next df E j lv st h = some X) (hr : X.2.2.2.2.1 ≤ h0.2.1 + R.cells ∧ X.2.2.2.2.2 ≤ h0.2.2 + R.slots) (hB : am_B D cl tys b c0 L xs s h0 nL h lv H locs ls cells slots) (K : am_K p l e R s m args below meth c Q D cl tys b c0 L xs h0 nL (am_pcs code) X) : W p l e R s m args below meth c H locs cells slots Q (F0 m (am_pc E) ls (st.map (am_r b c0))) := by
  obtain ⟨pc, len, i, a, b', c', d', q⟩ := E
  cases i
  case iconst nn =>
    simp only [am_ok, am_op, am_pc, am_len, am_a, am_b, am_c, am_d, am_q, Bool.and_eq_true, Bool.or_eq_true, beq_iff_eq, decide_eq_true_eq] at hok
    obtain ⟨hd, hl, hnx⟩ := hok
    subst hl
    exact am_w_iconst C hd hnx hn hB K
  case bipush nn =>
    simp only [am_ok, am_op, am_pc, am_len, am_a, am_b, am_c, am_d, am_q, Bool.and_eq_true, Bool.or_eq_true, beq_iff_eq, decide_eq_true_eq] at hok
    obtain ⟨hd, hl, hnx⟩ := hok
    subst hl
    exact am_w_bipush C hd hnx hn hB K
  case sipush nn =>
    simp only [am_ok, am_op, am_pc, am_len, am_a, am_b, am_c, am_d, am_q, Bool.and_eq_true, Bool.or_eq_true, beq_iff_eq, decide_eq_true_eq] at hok
    obtain ⟨hd, hl, hnx⟩ := hok
    subst hl
    exact am_w_sipush C hd hnx hn hB K
  case lconst nn =>
    simp only [am_ok, am_op, am_pc, am_len, am_a, am_b, am_c, am_d, am_q, Bool.and_eq_true, Bool.or_eq_true, beq_iff_eq, decide_eq_true_eq] at hok
    obtain ⟨hd, ⟨hl, hnx⟩, ha⟩ := hok
    subst hl
    subst ha
    exact am_w_lconst C hd hnx hn hB K
  case ldc nn =>
    simp only [am_ok, am_op, am_pc, am_len, am_a, am_b, am_c, am_d, am_q, Bool.and_eq_true, Bool.or_eq_true, beq_iff_eq, decide_eq_true_eq] at hok
    obtain ⟨hd, ⟨hl, hnx⟩, hw⟩ := hok
    subst hl
    exact am_w_ldc C (List.mem_of_getElem? hw) hd hnx hn hB K
  case ldc2_w nn =>
    simp only [am_ok, am_op, am_pc, am_len, am_a, am_b, am_c, am_d, am_q, Bool.and_eq_true, Bool.or_eq_true, beq_iff_eq, decide_eq_true_eq] at hok
    obtain ⟨hd, ⟨hl, hnx⟩, hw⟩ := hok
    subst hl
    exact am_w_ldc2_w C (List.mem_of_getElem? hw) hd hnx hn hB K
  case aconst_null =>
    simp only [am_ok, am_op, am_pc, am_len, am_a, am_b, am_c, am_d, am_q, Bool.and_eq_true, Bool.or_eq_true, beq_iff_eq, decide_eq_true_eq] at hok
    obtain ⟨hd, hl, hnx⟩ := hok
    subst hl
    exact am_w_aconst_null C hd hnx hn hB K
  case iload_n nn =>
    simp only [am_ok, am_op, am_pc, am_len, am_a, am_b, am_c, am_d, am_q, Bool.and_eq_true, Bool.or_eq_true, beq_iff_eq, decide_eq_true_eq] at hok
    obtain ⟨hd, ⟨hl, hnx⟩, ha⟩ := hok
    subst hl
    subst ha
    exact am_w_iload_n C hd hnx hn hB K
  case iload nn =>
    simp only [am_ok, am_op, am_pc, am_len, am_a, am_b, am_c, am_d, am_q, Bool.and_eq_true, Bool.or_eq_true, beq_iff_eq, decide_eq_true_eq] at hok
    obtain ⟨hd, ⟨hl, hnx⟩, ha⟩ := hok
    subst hl
    subst ha
    exact am_w_iload C hd hnx hn hB K
  case lload_n nn =>
    simp only [am_ok, am_op, am_pc, am_len, am_a, am_b, am_c, am_d, am_q, Bool.and_eq_true, Bool.or_eq_true, beq_iff_eq, decide_eq_true_eq] at hok
    obtain ⟨hd, ⟨hl, hnx⟩, ha⟩ := hok
    subst hl
    subst ha
    exact am_w_lload_n C hd hnx hn hB K
  case lload nn =>
    simp only [am_ok, am_op, am_pc, am_len, am_a, am_b, am_c, am_d, am_q, Bool.and_eq_true, Bool.or_eq_true, beq_iff_eq, decide_eq_true_eq] at hok
    obtain ⟨hd, ⟨hl, hnx⟩, ha⟩ := hok
    subst hl
    subst ha
    exact am_w_lload C hd hnx hn hB K
  case aload_n nn =>
    simp only [am_ok, am_op, am_pc, am_len, am_a, am_b, am_c, am_d, am_q, Bool.and_eq_true, Bool.or_eq_true, beq_iff_eq, decide_eq_true_eq] at hok
    obtain ⟨hd, ⟨hl, hnx⟩, ha⟩ := hok
    subst hl
    subst ha
    exact am_w_aload_n C hd hnx hn hB K
  case aload nn =>
    simp only [am_ok, am_op, am_pc, am_len, am_a, am_b, am_c, am_d, am_q, Bool.and_eq_true, Bool.or_eq_true, beq_iff_eq, decide_eq_true_eq] at hok
    obtain ⟨hd, ⟨hl, hnx⟩, ha⟩ := hok
    subst hl
    subst ha
    exact am_w_aload C hd hnx hn hB K
  case istore_n nn =>
    simp only [am_ok, am_op, am_pc, am_len, am_a, am_b, am_c, am_d, am_q, Bool.and_eq_true, Bool.or_eq_true, beq_iff_eq, decide_eq_true_eq] at hok
    obtain ⟨hd, ⟨⟨hl, hnx⟩, hlim⟩, ha⟩ := hok
    subst hl
    subst ha
    exact am_w_istore_n C hd hnx hlim hn hB K
  case istore nn =>
    simp only [am_ok, am_op, am_pc, am_len, am_a, am_b, am_c, am_d, am_q, Bool.and_eq_true, Bool.or_eq_true, beq_iff_eq, decide_eq_true_eq] at hok
    obtain ⟨hd, ⟨⟨hl, hnx⟩, hlim⟩, ha⟩ := hok
    subst hl
    subst ha
    exact am_w_istore C hd hnx hlim hn hB K
  case lstore_n nn =>
    simp only [am_ok, am_op, am_pc, am_len, am_a, am_b, am_c, am_d, am_q, Bool.and_eq_true, Bool.or_eq_true, beq_iff_eq, decide_eq_true_eq] at hok
    obtain ⟨hd, ⟨⟨hl, hnx⟩, hlim⟩, ha⟩ := hok
    subst hl
    subst ha
    exact am_w_lstore_n C hd hnx hlim hn hB K
  case lstore nn =>
    simp only [am_ok, am_op, am_pc, am_len, am_a, am_b, am_c, am_d, am_q, Bool.and_eq_true, Bool.or_eq_true, beq_iff_eq, decide_eq_true_eq] at hok
    obtain ⟨hd, ⟨⟨hl, hnx⟩, hlim⟩, ha⟩ := hok
    subst hl
    subst ha
    exact am_w_lstore C hd hnx hlim hn hB K
  case astore_n nn =>
    simp only [am_ok, am_op, am_pc, am_len, am_a, am_b, am_c, am_d, am_q, Bool.and_eq_true, Bool.or_eq_true, beq_iff_eq, decide_eq_true_eq] at hok
    obtain ⟨hd, ⟨⟨hl, hnx⟩, hlim⟩, ha⟩ := hok
    subst hl
    subst ha
    exact am_w_astore_n C hd hnx hlim hn hB K
  case astore nn =>
    simp only [am_ok, am_op, am_pc, am_len, am_a, am_b, am_c, am_d, am_q, Bool.and_eq_true, Bool.or_eq_true, beq_iff_eq, decide_eq_true_eq] at hok
    obtain ⟨hd, ⟨⟨hl, hnx⟩, hlim⟩, ha⟩ := hok
    subst hl
    subst ha
    exact am_w_astore C hd hnx hlim hn hB K
  case iinc nn mm =>
    simp only [am_ok, am_op, am_pc, am_len, am_a, am_b, am_c, am_d, am_q, Bool.and_eq_true, Bool.or_eq_true, beq_iff_eq, decide_eq_true_eq] at hok
    obtain ⟨hd, ⟨hl, hnx⟩, hlim⟩ := hok
    subst hl
    exact am_w_iinc C hd hnx hlim hn hB K
  case iadd =>
    simp only [am_ok, am_op, am_pc, am_len, am_a, am_b, am_c, am_d, am_q, Bool.and_eq_true, Bool.or_eq_true, beq_iff_eq, decide_eq_true_eq] at hok
    obtain ⟨hd, hl, hnx⟩ := hok
    subst hl
    exact am_w_iadd C hd hnx hn hB K
  case isub =>
    simp only [am_ok, am_op, am_pc, am_len, am_a, am_b, am_c, am_d, am_q, Bool.and_eq_true, Bool.or_eq_true, beq_iff_eq, decide_eq_true_eq] at hok
    obtain ⟨hd, hl, hnx⟩ := hok
    subst hl
    exact am_w_isub C hd hnx hn hB K
  case imul =>
    simp only [am_ok, am_op, am_pc, am_len, am_a, am_b, am_c, am_d, am_q, Bool.and_eq_true, Bool.or_eq_true, beq_iff_eq, decide_eq_true_eq] at hok
    obtain ⟨hd, hl, hnx⟩ := hok
    subst hl
    exact am_w_imul C hd hnx hn hB K
  case iand =>
    simp only [am_ok, am_op, am_pc, am_len, am_a, am_b, am_c, am_d, am_q, Bool.and_eq_true, Bool.or_eq_true, beq_iff_eq, decide_eq_true_eq] at hok
    obtain ⟨hd, hl, hnx⟩ := hok
    subst hl
    exact am_w_iand C hd hnx hn hB K
  case ior =>
    simp only [am_ok, am_op, am_pc, am_len, am_a, am_b, am_c, am_d, am_q, Bool.and_eq_true, Bool.or_eq_true, beq_iff_eq, decide_eq_true_eq] at hok
    obtain ⟨hd, hl, hnx⟩ := hok
    subst hl
    exact am_w_ior C hd hnx hn hB K
  case ixor =>
    simp only [am_ok, am_op, am_pc, am_len, am_a, am_b, am_c, am_d, am_q, Bool.and_eq_true, Bool.or_eq_true, beq_iff_eq, decide_eq_true_eq] at hok
    obtain ⟨hd, hl, hnx⟩ := hok
    subst hl
    exact am_w_ixor C hd hnx hn hB K
  case idiv =>
    simp only [am_ok, am_op, am_pc, am_len, am_a, am_b, am_c, am_d, am_q, Bool.and_eq_true, Bool.or_eq_true, beq_iff_eq, decide_eq_true_eq] at hok
    obtain ⟨hd, hl, hnx⟩ := hok
    subst hl
    exact am_w_idiv C hd hnx hn hB K
  case irem =>
    simp only [am_ok, am_op, am_pc, am_len, am_a, am_b, am_c, am_d, am_q, Bool.and_eq_true, Bool.or_eq_true, beq_iff_eq, decide_eq_true_eq] at hok
    obtain ⟨hd, hl, hnx⟩ := hok
    subst hl
    exact am_w_irem C hd hnx hn hB K
  case ineg =>
    simp only [am_ok, am_op, am_pc, am_len, am_a, am_b, am_c, am_d, am_q, Bool.and_eq_true, Bool.or_eq_true, beq_iff_eq, decide_eq_true_eq] at hok
    obtain ⟨hd, hl, hnx⟩ := hok
    subst hl
    exact am_w_ineg C hd hnx hn hB K
  case ishl =>
    simp only [am_ok, am_op, am_pc, am_len, am_a, am_b, am_c, am_d, am_q, Bool.and_eq_true, Bool.or_eq_true, beq_iff_eq, decide_eq_true_eq] at hok
    obtain ⟨hd, hl, hnx⟩ := hok
    subst hl
    exact am_w_ishl C hd hnx hn hB K
  case ishr =>
    simp only [am_ok, am_op, am_pc, am_len, am_a, am_b, am_c, am_d, am_q, Bool.and_eq_true, Bool.or_eq_true, beq_iff_eq, decide_eq_true_eq] at hok
    obtain ⟨hd, hl, hnx⟩ := hok
    subst hl
    exact am_w_ishr C hd hnx hn hB K
  case iushr =>
    simp only [am_ok, am_op, am_pc, am_len, am_a, am_b, am_c, am_d, am_q, Bool.and_eq_true, Bool.or_eq_true, beq_iff_eq, decide_eq_true_eq] at hok
    obtain ⟨hd, hl, hnx⟩ := hok
    subst hl
    exact am_w_iushr C hd hnx hn hB K
  case ladd =>
    simp only [am_ok, am_op, am_pc, am_len, am_a, am_b, am_c, am_d, am_q, Bool.and_eq_true, Bool.or_eq_true, beq_iff_eq, decide_eq_true_eq] at hok
    obtain ⟨hd, hl, hnx⟩ := hok
    subst hl
    exact am_w_ladd C hd hnx hn hB K
  case lsub =>
    simp only [am_ok, am_op, am_pc, am_len, am_a, am_b, am_c, am_d, am_q, Bool.and_eq_true, Bool.or_eq_true, beq_iff_eq, decide_eq_true_eq] at hok
    obtain ⟨hd, hl, hnx⟩ := hok
    subst hl
    exact am_w_lsub C hd hnx hn hB K
  case lmul =>
    simp only [am_ok, am_op, am_pc, am_len, am_a, am_b, am_c, am_d, am_q, Bool.and_eq_true, Bool.or_eq_true, beq_iff_eq, decide_eq_true_eq] at hok
    obtain ⟨hd, hl, hnx⟩ := hok
    subst hl
    exact am_w_lmul C hd hnx hn hB K
  case land =>
    simp only [am_ok, am_op, am_pc, am_len, am_a, am_b, am_c, am_d, am_q, Bool.and_eq_true, Bool.or_eq_true, beq_iff_eq, decide_eq_true_eq] at hok
    obtain ⟨hd, hl, hnx⟩ := hok
    subst hl
    exact am_w_land C hd hnx hn hB K
  case lor =>
    simp only [am_ok, am_op, am_pc, am_len, am_a, am_b, am_c, am_d, am_q, Bool.and_eq_true, Bool.or_eq_true, beq_iff_eq, decide_eq_true_eq] at hok
    obtain ⟨hd, hl, hnx⟩ := hok
    subst hl
    exact am_w_lor C hd hnx hn hB K
  case lxor =>
    simp only [am_ok, am_op, am_pc, am_len, am_a, am_b, am_c, am_d, am_q, Bool.and_eq_true, Bool.or_eq_true, beq_iff_eq, decide_eq_true_eq] at hok
    obtain ⟨hd, hl, hnx⟩ := hok
    subst hl
    exact am_w_lxor C hd hnx hn hB K
  case lshl =>
    simp only [am_ok, am_op, am_pc, am_len, am_a, am_b, am_c, am_d, am_q, Bool.and_eq_true, Bool.or_eq_true, beq_iff_eq, decide_eq_true_eq] at hok
    obtain ⟨hd, hl, hnx⟩ := hok
    subst hl
    exact am_w_lshl C hd hnx hn hB K
  case lshr =>
    simp only [am_ok, am_op, am_pc, am_len, am_a, am_b, am_c, am_d, am_q, Bool.and_eq_true, Bool.or_eq_true, beq_iff_eq, decide_eq_true_eq] at hok
    obtain ⟨hd, hl, hnx⟩ := hok
    subst hl
    exact am_w_lshr C hd hnx hn hB K
  case lushr =>
    simp only [am_ok, am_op, am_pc, am_len, am_a, am_b, am_c, am_d, am_q, Bool.and_eq_true, Bool.or_eq_true, beq_iff_eq, decide_eq_true_eq] at hok
    obtain ⟨hd, hl, hnx⟩ := hok
    subst hl
    exact am_w_lushr C hd hnx hn hB K
  case lcmp =>
    simp only [am_ok, am_op, am_pc, am_len, am_a, am_b, am_c, am_d, am_q, Bool.and_eq_true, Bool.or_eq_true, beq_iff_eq, decide_eq_true_eq] at hok
    obtain ⟨hd, hl, hnx⟩ := hok
    subst hl
    exact am_w_lcmp C hd hnx hn hB K
  case i2l =>
    simp only [am_ok, am_op, am_pc, am_len, am_a, am_b, am_c, am_d, am_q, Bool.and_eq_true, Bool.or_eq_true, beq_iff_eq, decide_eq_true_eq] at hok
    obtain ⟨hd, hl, hnx⟩ := hok
    subst hl
    exact am_w_i2l C hd hnx hn hB K
  case l2i =>
    simp only [am_ok, am_op, am_pc, am_len, am_a, am_b, am_c, am_d, am_q, Bool.and_eq_true, Bool.or_eq_true, beq_iff_eq, decide_eq_true_eq] at hok
    obtain ⟨hd, hl, hnx⟩ := hok
    subst hl
    exact am_w_l2i C hd hnx hn hB K
  case i2b =>
    simp only [am_ok, am_op, am_pc, am_len, am_a, am_b, am_c, am_d, am_q, Bool.and_eq_true, Bool.or_eq_true, beq_iff_eq, decide_eq_true_eq] at hok
    obtain ⟨hd, hl, hnx⟩ := hok
    subst hl
    exact am_w_i2b C hd hnx hn hB K
  case dup =>
    simp only [am_ok, am_op, am_pc, am_len, am_a, am_b, am_c, am_d, am_q, Bool.and_eq_true, Bool.or_eq_true, beq_iff_eq, decide_eq_true_eq] at hok
    obtain ⟨hd, hl, hnx⟩ := hok
    subst hl
    exact am_w_dup C hd hnx hn hB K
  case pop =>
    simp only [am_ok, am_op, am_pc, am_len, am_a, am_b, am_c, am_d, am_q, Bool.and_eq_true, Bool.or_eq_true, beq_iff_eq, decide_eq_true_eq] at hok
    obtain ⟨hd, hl, hnx⟩ := hok
    subst hl
    exact am_w_pop C hd hnx hn hB K
  case dup2 =>
    simp only [am_ok, am_op, am_pc, am_len, am_a, am_b, am_c, am_d, am_q, Bool.and_eq_true, Bool.or_eq_true, beq_iff_eq, decide_eq_true_eq] at hok
    obtain ⟨hd, hl, hnx⟩ := hok
    subst hl
    exact am_w_dup2 C hd hnx hn hB K
  case dup_x1 =>
    simp only [am_ok, am_op, am_pc, am_len, am_a, am_b, am_c, am_d, am_q, Bool.and_eq_true, Bool.or_eq_true, beq_iff_eq, decide_eq_true_eq] at hok
    obtain ⟨hd, hl, hnx⟩ := hok
    subst hl
    exact am_w_dup_x1 C hd hnx hn hB K
  case ifCond cd off =>
    simp only [am_ok, am_op, am_pc, am_len, am_a, am_b, am_c, am_d, am_q, Bool.and_eq_true, Bool.or_eq_true, beq_iff_eq, decide_eq_true_eq] at hok
    obtain ⟨hd, ⟨hl, hnx⟩, ht⟩ := hok
    subst hl
    exact am_w_ifCond C hd hnx ht hn hB K
  case if_icmp cd off =>
    simp only [am_ok, am_op, am_pc, am_len, am_a, am_b, am_c, am_d, am_q, Bool.and_eq_true, Bool.or_eq_true, beq_iff_eq, decide_eq_true_eq] at hok
    obtain ⟨hd, ⟨hl, hnx⟩, ht⟩ := hok
    subst hl
    exact am_w_if_icmp C hd hnx ht hn hB K
  case goto off =>
    simp only [am_ok, am_op, am_pc, am_len, am_a, am_b, am_c, am_d, am_q, Bool.and_eq_true, Bool.or_eq_true, beq_iff_eq, decide_eq_true_eq] at hok
    obtain ⟨hd, hl, ht⟩ := hok
    subst hl
    exact am_w_goto C hd ht hn hB K
  case ifnull off =>
    simp only [am_ok, am_op, am_pc, am_len, am_a, am_b, am_c, am_d, am_q, Bool.and_eq_true, Bool.or_eq_true, beq_iff_eq, decide_eq_true_eq] at hok
    obtain ⟨hd, ⟨hl, hnx⟩, ht⟩ := hok
    subst hl
    exact am_w_ifnull C hd hnx ht hn hB K
  case ifnonnull off =>
    simp only [am_ok, am_op, am_pc, am_len, am_a, am_b, am_c, am_d, am_q, Bool.and_eq_true, Bool.or_eq_true, beq_iff_eq, decide_eq_true_eq] at hok
    obtain ⟨hd, ⟨hl, hnx⟩, ht⟩ := hok
    subst hl
    exact am_w_ifnonnull C hd hnx ht hn hB K
  case getfield idx =>
    simp only [am_ok, am_op, am_pc, am_len, am_a, am_b, am_c, am_d, am_q, Bool.and_eq_true, Bool.or_eq_true, beq_iff_eq, decide_eq_true_eq] at hok
    obtain ⟨hd, ⟨⟨hl, hnx⟩, ha⟩, hf⟩ := hok
    subst hl
    split at hf
    · rename_i Cn T N hc
      simp only [Bool.and_eq_true, decide_eq_true_eq] at hf
      obtain ⟨hf1, hf2⟩ := hf
      exact am_w_getfield C hd hnx hc hf1 (G.2.1 _ _ _ _ hc).1 (List.mem_of_getElem? hf2) ha hn hB K
    · cases hf
  case putfield idx =>
    simp only [am_ok, am_op, am_pc, am_len, am_a, am_b, am_c, am_d, am_q, Bool.and_eq_true, Bool.or_eq_true, beq_iff_eq, decide_eq_true_eq] at hok
    obtain ⟨hd, ⟨⟨hl, hnx⟩, ha⟩, hf⟩ := hok
    subst hl
    split at hf
    · rename_i Cn T N hc
      simp only [Bool.and_eq_true, decide_eq_true_eq] at hf
      obtain ⟨⟨⟨hf1, hf2⟩, hf3⟩, hf4⟩ := hf
      exact am_w_putfield C hd hnx hc hf1 (G.2.1 _ _ _ _ hc).1 (am_fty T) (G.2.1 _ _ _ _ hc).2.1 (G.2.1 _ _ _ _ hc).2.2.1 (List.mem_of_getElem? hf2) (by rw [hnm]; exact hf4) hf3 ha hn hB K
    · cases hf
  case iaload =>
    simp only [am_ok, am_op, am_pc, am_len, am_a, am_b, am_c, am_d, am_q, Bool.and_eq_true, Bool.or_eq_true, beq_iff_eq, decide_eq_true_eq] at hok
    obtain ⟨hd, ⟨hl, hnx⟩, ht⟩ := hok
    subst hl
    exact am_w_iaload C hd hnx (am_tyx hT ht) hn hB K
  case laload =>
    simp only [am_ok, am_op, am_pc, am_len, am_a, am_b, am_c, am_d, am_q, Bool.and_eq_true, Bool.or_eq_true, beq_iff_eq, decide_eq_true_eq] at hok
    obtain ⟨hd, ⟨hl, hnx⟩, ht⟩ := hok
    subst hl
    exact am_w_laload C hd hnx (am_tyx hT ht) hn hB K
  case baload =>
    simp only [am_ok, am_op, am_pc, am_len, am_a, am_b, am_c, am_d, am_q, Bool.and_eq_true, Bool.or_eq_true, beq_iff_eq, decide_eq_true_eq] at hok
    obtain ⟨hd, ⟨⟨hl, hnx⟩, ht2⟩, ht3⟩ := hok
    subst hl
    exact am_w_baload C hd hnx (am_tyx hT ht2) (am_tyx hT ht3) hn hB K
  case aaload =>
    simp only [am_ok, am_op, am_pc, am_len, am_a, am_b, am_c, am_d, am_q, Bool.and_eq_true, Bool.or_eq_true, beq_iff_eq, decide_eq_true_eq] at hok
    obtain ⟨hd, hl, hnx⟩ := hok
    subst hl
    exact am_w_aaload C hd hnx (am_tyr hT G.2.2.2.2.2) hn hB K
  case iastore =>
    simp only [am_ok, am_op, am_pc, am_len, am_a, am_b, am_c, am_d, am_q, Bool.and_eq_true, Bool.or_eq_true, beq_iff_eq, decide_eq_true_eq] at hok
    obtain ⟨hd, ⟨hl, hnx⟩, ht⟩ := hok
    subst hl
    exact am_w_iastore C hd hnx (am_tyx hT ht) hn hB K
  case lastore =>
    simp only [am_ok, am_op, am_pc, am_len, am_a, am_b, am_c, am_d, am_q, Bool.and_eq_true, Bool.or_eq_true, beq_iff_eq, decide_eq_true_eq] at hok
    obtain ⟨hd, ⟨hl, hnx⟩, ht⟩ := hok
    subst hl
    exact am_w_lastore C hd hnx (am_tyx hT ht) hn hB K
  case bastore =>
    simp only [am_ok, am_op, am_pc, am_len, am_a, am_b, am_c, am_d, am_q, Bool.and_eq_true, Bool.or_eq_true, beq_iff_eq, decide_eq_true_eq] at hok
    obtain ⟨hd, ⟨⟨hl, hnx⟩, ht2⟩, ht3⟩ := hok
    subst hl
    exact am_w_bastore C hd hnx (am_tyx hT ht2) (am_tyx hT ht3) hn hB K
  case arraylength =>
    simp only [am_ok, am_op, am_pc, am_len, am_a, am_b, am_c, am_d, am_q, Bool.and_eq_true, Bool.or_eq_true, beq_iff_eq, decide_eq_true_eq] at hok
    obtain ⟨hd, hl, hnx⟩ := hok
    subst hl
    exact am_w_arraylength C hd hnx hn hB K
  case newarray at1 =>
    simp only [am_ok, am_op, am_pc, am_len, am_a, am_b, am_c, am_d, am_q, Bool.and_eq_true, Bool.or_eq_true, beq_iff_eq, decide_eq_true_eq] at hok
    obtain ⟨hd, ⟨⟨⟨hl, hnx⟩, ht⟩, hw⟩, ha⟩ := hok
    subst hl
    cases at1 <;> first | (cases ha; done) | (simp only [beq_iff_eq] at ha; subst ha; exact am_w_newarray C hd hnx (am_tyx hT ht) (List.mem_of_getElem? hw) (fun _ _ => rfl) (by decide) hn hr hB K)
  case new idx =>
    simp only [am_ok, am_op, am_pc, am_len, am_a, am_b, am_c, am_d, am_q, Bool.and_eq_true, Bool.or_eq_true, beq_iff_eq, decide_eq_true_eq] at hok
    obtain ⟨hd, ⟨hl, hnx⟩, hf⟩ := hok
    subst hl
    split at hf
    · rename_i Cn T N hc
      simp only [decide_eq_true_eq] at hf
      exact am_w_new C hd hnx hc (G.2.1 _ _ _ _ hc).1 (am_fty T) (G.2.1 _ _ _ _ hc).2.1 (List.mem_of_getElem? hf) (G.2.1 _ _ _ _ hc).2.2.2.1 (G.2.1 _ _ _ _ hc).2.2.2.2.1 (G.2.1 _ _ _ _ hc).2.2.2.2.2.1 (G.2.1 _ _ _ _ hc).2.2.2.2.2.2 hn hr hB K
    · cases hf
  case multianewarray idx dd =>
    simp only [am_ok, am_op, am_pc, am_len, am_a, am_b, am_c, am_d, am_q, Bool.and_eq_true, Bool.or_eq_true, beq_iff_eq, decide_eq_true_eq] at hok
    obtain ⟨hd, ⟨⟨⟨⟨⟨⟨⟨hl, hnx⟩, hdd⟩, hb0⟩, ht0⟩, ht⟩, hw1⟩, hw2⟩, hw3⟩ := hok
    subst hl
    subst hdd
    subst hb0
    exact am_w_multi C hd hnx (am_tyx hT ht0) (am_tyx hT ht) (List.mem_of_getElem? hw1) (List.mem_of_getElem? hw2) (List.mem_of_getElem? hw3) hn hr hB K
  case invokespecial idx =>
    simp only [am_kd, am_op, am_a] at hk
    split at hk
    · rename_i ha
      subst ha
      simp only [am_ok, am_op, am_pc, am_len, am_a, am_b, am_c, am_d, am_q, Bool.and_eq_true, beq_iff_eq, decide_eq_true_eq, if_true] at hok
      obtain ⟨hd, ⟨hl, hnx⟩, hw⟩ := hok
      subst hl
      exact am_w_objInit C hd hnx (List.mem_of_getElem? hw) G.2.2.2.1 G.2.2.2.2.1 hfr hlo hn hB K
    · cases hk
  all_goals exact absurd hn (fun q => by cases q)
end AMD
end
section
/-! A call, and a method's whole run. -/
def am_rm (d mc ms : Nat) : Room := { frames := d, cells := mc, slots := ms, locals := d * 36 }
def am_Pc (D : va_G) (cl : List vw_C) (tys : List (ClassId × FieldType)) (b c0 L : Nat) (xs : Nat → Int32) (as : List Value) (h : am_H) : Array Value → State → Prop := fun v U => v = (as.map (am_r b c0)).toArray ∧ am_R D cl tys b c0 L xs U h U.heap
def am_Qc (D : va_G) (cl : List vw_C) (tys : List (ClassId × FieldType)) (b c0 L : Nat) (xs : Nat → Int32) (r : Option Value) (h : am_H) : Array Value → State → Outcome → State → Prop := fun _ st o t => o = .returned (r.map (am_r b c0)) ∧ am_R D cl tys b c0 L xs t h t.heap ∧ ∀ q, q ≤ c0 → t.heap[q]? = st.heap[q]?
theorem am_blind {D : va_G} {cl : List vw_C} {tys : List (ClassId × FieldType)} {b c0 L : Nat} {xs : Nat → Int32} {as : List Value} {h : am_H} : FrameBlind (am_Pc D cl tys b c0 L xs as h) :=
  fun a U g mk q => ⟨q.1, am_R.moved (u := U) (U := U.calling g mk a) (Vm.Alike.refl U.vm) q.2⟩
abbrev am_wsM (Tb : List Jvm.Cond) (M : am_M) : List Jvm.Cond := Jvm.Cond.code M.1 M.2.1 M.2.2.1 M.2.2.2.1 :: Tb
/-- a method's contract out of its run -/
def am_Met (l : Launch) (Tb : List Jvm.Cond) (D : va_G) (cl : List vw_C) (tys : List (ClassId × FieldType)) (b c0 L : Nat) (xs : Nat → Int32) (d : Nat) (M : am_M) (as : List Value) (h : am_H) (r : Option Value) (h1 : am_H) : Prop :=
  (h.2.1 ≤ h1.2.1 ∧ h.2.2 ≤ h1.2.2) ∧ Met l M.1 (am_wsM Tb M) (am_rm d (h1.2.1 - h.2.1) (h1.2.2 - h.2.2)) (am_Pc D cl tys b c0 L xs as h) (am_Qc D cl tys b c0 L xs r h1) (h1.2.1 - h.2.1) (h1.2.2 - h.2.2) (fun q => c0 < q)
theorem am_next_mono {df : Nat → List Value} {e : am_I} {j : Nat} {lv : am_L} {st : List Value} {h : am_H} {X : am_C} (hn : am_next df e j lv st h = some X) : h.2.1 ≤ X.2.2.2.2.1 ∧ h.2.2 ≤ X.2.2.2.2.2 := by
  obtain ⟨pc, len, i, a, b', c', d', q⟩ := e
  cases i <;> first
    | exact absurd hn (fun q => by cases q)
    | (simp only [am_next, am_op, am_i1, am_i2, am_l1, am_l2, am_li, am_r1, am_ir, am_vr, am_iir, am_lir, am_v1, am_v2, am_nl, am_ldi, am_ldl, am_lda, am_inc, am_ai, am_ab, am_al, am_aq, am_al0, am_ob, am_fd, am_br] at hn
       repeat' split at hn
       all_goals first
         | (cases hn; exact ⟨Nat.le_refl _, Nat.le_refl _⟩)
         | (cases hn; exact ⟨Nat.le_succ _, Nat.le_add_right _ _⟩)
         | (cases hn; simp only [am_mk2]; exact ⟨by omega, by omega⟩)
         | cases hn)
theorem am_loop_mono {df : Nat → List Value} {orc : Nat → List Value → am_H → Option (Option Value × am_H)} {code : List am_I} (ho : ∀ z as h r h1, orc z as h = some (r, h1) → h.2.1 ≤ h1.2.1 ∧ h.2.2 ≤ h1.2.2) : ∀ (k : Nat) (X : am_C) (r : Option Value) (h1 : am_H), am_loop df orc code k X = some (r, h1) → X.2.2.2.2.1 ≤ h1.2.1 ∧ X.2.2.2.2.2 ≤ h1.2.2 := by
  intro k
  induction k with
  | zero => intro X r h1 hl; cases hl
  | succ k ih =>
    intro X r h1 hl
    obtain ⟨j, lv, st, h⟩ := X
    unfold am_loop at hl
    split at hl
    · cases hl
    · rename_i e he
      split at hl
      · cases hx : am_next df e j lv st h with
        | none => rw [hx] at hl; cases hl
        | some Y =>
          rw [hx] at hl
          have h2 := am_next_mono hx
          have h3 := ih Y r h1 hl
          exact ⟨Nat.le_trans h2.1 h3.1, Nat.le_trans h2.2 h3.2⟩
      · cases hx : am_ret e st with
        | none => rw [hx] at hl; cases hl
        | some v =>
          rw [hx] at hl
          cases hl
          exact ⟨Nat.le_refl _, Nat.le_refl _⟩
      · split at hl
        · cases hx : orc (am_a e) (st.take (am_b e)).reverse h with
          | none => rw [hx] at hl; cases hl
          | some v =>
            rw [hx] at hl
            obtain ⟨v1, v2⟩ := v
            have h2 := ho _ _ _ _ _ hx
            have h3 := ih _ r h1 hl
            exact ⟨Nat.le_trans h2.1 h3.1, Nat.le_trans h2.2 h3.2⟩
        · cases hl
section AMS
variable {p : Program} {l : Launch} {e : Env} {R : Room} {s : State} {m : MethodId} {args : Array Value} {below : List Frame} {meth : Method} {c : Code} {Q : State → Prop}
variable {cc : ByteArray} {D : va_G} {cl : List vw_C} {tys : List (ClassId × FieldType)} {b c0 L : Nat} {xs : Nat → Int32} {h0 h : am_H} {nL : Nat} {own nm : String} {Tb : List Jvm.Cond}
variable {H : Heap} {locs : List Loc} {ls : Array Slot} {cells slots : Nat} {lv : am_L} {st rest : List Value} {j pc : Nat} {X : am_C}
variable {tyL : List FieldType} {df : Nat → List Value} {MT : List am_M} {ret : Option FieldType} {code : List am_I}
theorem am_callX {mc ms : Nat} {Qa : State → Outcome → State → Prop} {st0 : List Value} (hr : va_Run p l e R s m args below meth c H locs cells slots mc ms (F0 m pc ls st0) rest Qa (fun q => c0 < q))
    (kk : ∀ (v : Option Value) (st₀ t : State) (L1 : List Loc), st₀.heap = H → s.vm.Alike t.vm → Qa st₀ (.returned v) t → (∀ x ∈ L1, c0 < x.base) → W p l e R s m args below meth c t.heap (locs ++ L1) (cells + mc) (slots + ms) Q (F0 m (pc + 3) ls (v.toList ++ rest))) : W p l e R s m args below meth c H locs cells slots Q (F0 m pc ls st0) := by
  intro T hT X
  obtain ⟨v, st₀, t, T', L1, g0, X', hL, e1, e2, hq, st⟩ := hr T hT X
  obtain ⟨t2, a1, b1⟩ := kk v st₀ t L1 g0 (by rw [← e2]; exact X'.warmed.alike) hq hL T' e1 X'
  exact ⟨t2, st t2 a1, b1⟩
/-- behind a call -/
theorem am_back {pcs : Nat → Nat} {r : Option Value} {h1 : am_H} {a : Array Value} {st0 : List Value} (hm : h.2.1 ≤ h1.2.1 ∧ h.2.2 ≤ h1.2.2) (hnx : pcs (j + 1) = pc + 3) (hB : am_B D cl tys b c0 L xs s h0 nL h lv H locs ls cells slots) (K : am_K p l e R s m args below meth c Q D cl tys b c0 L xs h0 nL pcs (j + 1, lv, r.toList ++ rest, h1))
    (hr : va_Run p l e R s m args below meth c H locs cells slots (h1.2.1 - h.2.1) (h1.2.2 - h.2.2) (F0 m pc ls st0) (rest.map (am_r b c0)) (am_Qc D cl tys b c0 L xs r h1 a) (fun q => c0 < q)) : W p l e R s m args below meth c H locs cells slots Q (F0 m pc ls st0) := by
  refine am_callX hr (fun v st₀ t L1 e1 hv hq hL => ?_)
  obtain ⟨q1, q2, q3⟩ := hq
  cases q1
  obtain ⟨b1, b2, b3, b4, b5, b6⟩ := hB
  have k9 := K t.heap (locs ++ L1) ls (cells + (h1.2.1 - h.2.1)) (slots + (h1.2.2 - h.2.2)) ⟨q2.moved hv.symm, b2, fun q hq => (q3 q hq).trans (by rw [e1]; exact b3 q hq), fun x hx => by
    rcases List.mem_append.mp hx with hx | hx
    · exact b4 x hx
    · exact hL x hx, by show h1.2.1 = _; omega, by show h1.2.2 = _; omega⟩
  dsimp only at k9
  rw [hnx] at k9
  cases r with
  | none => exact k9
  | some r => exact k9
theorem am_goodIn (hG : ∀ w ∈ Tb, goodWord w = true) {x : Jvm.Cond} (hx : x ∈ Tb) : GoodIn Tb (x :: Tb) := by
  intro w hw
  have h1 : w ∈ Tb := by
    rcases List.mem_cons.mp hw with h1 | h1
    · rw [h1]; exact hx
    · exact h1
  exact ⟨h1, good_of_word (hG w h1)⟩
/-- what the program decides of a callee, and what its call asks of the room -/
theorem am_okB {E : am_I} {idx n d mc ms : Nat} {M : am_M} (hG : ∀ w ∈ Tb, goodWord w = true) (C : CallFix p m c cc nL s args Tb own) (hM : MT[am_a E]? = some M) (hok : am_okC Tb MT own E idx n = true) (hR : d + 1 ≤ R.frames ∧ (d + 1) * 36 ≤ R.locals) :
    CallB R s args own idx M.1 M.2.1 M.2.2.1 M.2.2.2.1 (am_wsM Tb M) (am_rm d mc ms) mc ms n ∨ ∃ host, va_CN R s args own idx M.1 host M.2.1 M.2.2.1 M.2.2.2.1 (am_wsM Tb M) (am_rm d mc ms) mc ms n := by
  obtain ⟨y, bytes, maxL, ret, pos, code1⟩ := M
  unfold am_okC at hok
  rw [hM] at hok
  simp only [Bool.and_eq_true, decide_eq_true_eq] at hok
  obtain ⟨⟨⟨⟨h1, h2⟩, h3⟩, h4⟩, h5⟩ := hok
  have hroom : (am_rm d mc ms).frames + 1 ≤ R.frames ∧ 8 + (maxL + 11) + (am_rm d mc ms).locals ≤ R.locals := by
    have hR1 := hR.1
    have hR2 := hR.2
    simp only [am_rm]
    omega
  have hcd : Jvm.Cond.code y bytes maxL ret ∈ Tb := List.mem_of_getElem? h1
  split at h5
  · rename_i o i y2 hq
    simp only [decide_eq_true_eq] at h5
    obtain ⟨rfl, rfl, rfl⟩ := h5
    exact Or.inl (callB_of n C.2.2.2.2 (am_goodIn hG hcd) rfl rfl rfl (C.2.2.2.2 _ (List.mem_of_getElem? h2)) (C.2.2.2.2 _ (List.mem_of_getElem? hq)) h3 hroom)
  · rename_i o i y2 host hq
    simp only [decide_eq_true_eq] at h5
    obtain ⟨rfl, rfl, rfl⟩ := h5
    exact Or.inr ⟨host, va_cnB n C.2.2.2.2 (am_goodIn hG hcd) rfl rfl rfl (va_any rfl (C.2.2.2.2 _ (List.mem_of_getElem? hq))) (C.2.2.2.2 _ (List.mem_of_getElem? h2)) h3 hroom⟩
  · cases h5
end AMS
end
section
section AMT
variable {p : Program} {l : Launch} {e : Env} {R : Room} {s : State} {m : MethodId} {args : Array Value} {below : List Frame} {meth : Method} {c : Code} {Q : State → Prop}
variable {cc : ByteArray} {D : va_G} {cl : List vw_C} {tys : List (ClassId × FieldType)} {b c0 L : Nat} {xs : Nat → Int32} {h0 h : am_H} {nL : Nat} {own nm : String} {Tb : List Jvm.Cond}
variable {H : Heap} {locs : List Loc} {ls : Array Slot} {cells slots : Nat} {lv : am_L} {st rest : List Value} {j pc : Nat} {X : am_C}
variable {tyL : List FieldType} {df : Nat → List Value} {MT : List am_M} {ret : Option FieldType} {code : List am_I}
theorem am_split (n : Nat) (st : List Value) : st.map (am_r b c0) = (((st.take n).reverse.map (am_r b c0))).reverse ++ (st.drop n).map (am_r b c0) := by
  rw [List.map_reverse, List.reverse_reverse, ← List.map_append, List.take_append_drop]
set_option maxHeartbeats 4000000 in
theorem am_w_call (G : am_Good Tb cl tyL df MT) (C : CallFix p m c cc nL s args Tb own) {d : Nat} (hR : d + 1 ≤ R.frames ∧ (d + 1) * 36 ≤ R.locals) {E : am_I} (hk0 : am_kd E ≠ 0) (hk1 : am_kd E ≠ 1) (hok : am_ok Tb cl tyL MT own nm cc nL ret code j E = true) (hcan : am_can E st h = true) {M : am_M} (hM : MT[am_a E]? = some M) {v : Option Value} {h2 : am_H} (hMet : am_Met l Tb D cl tys b c0 L xs d M (st.take (am_b E)).reverse h v h2) (hf : cells + (h2.2.1 - h.2.1) ≤ R.cells ∧ slots + (h2.2.2 - h.2.2) ≤ R.slots)
    (hB : am_B D cl tys b c0 L xs s h0 nL h lv H locs ls cells slots) (K : am_K p l e R s m args below meth c Q D cl tys b c0 L xs h0 nL (am_pcs code) (j + 1, lv, v.toList ++ st.drop (am_b E), h2)) : W p l e R s m args below meth c H locs cells slots Q (F0 m (am_pc E) ls (st.map (am_r b c0))) := by
  obtain ⟨hm, hMet⟩ := hMet
  obtain ⟨pc, len, i, a, b', c', d', q⟩ := E
  obtain ⟨y, bytes, maxL, rt, pos, code1⟩ := M
  simp only [am_can, am_a, am_b, am_c, Bool.and_eq_true, decide_eq_true_eq] at hcan
  obtain ⟨⟨hlen, hsum⟩, hrc⟩ := hcan
  simp only [am_a, am_b, am_pc] at hM hMet K ⊢
  have hsum2 : (((st.drop b').map (am_r b c0)).map fun v => v.category).sum ≤ 8 := by rw [am_cats]; exact hsum
  have hrm := lv_room (m := m) (pc := pc) (ls := ls) (rest := st.map (am_r b c0)) hsum2
  have hal : (st.take b').reverse.length = b' := by rw [List.length_reverse, List.length_take]; omega
  cases i
  case invokestatic idx =>
    simp only [am_ok, am_op, am_pc, am_len, am_a, am_b, Bool.and_eq_true, beq_iff_eq, decide_eq_true_eq] at hok
    obtain ⟨hd, ⟨⟨hl, hnx⟩, hC⟩, hw⟩ := hok
    subst hl
    rw [hM] at hw
    simp only [decide_eq_true_eq] at hw
    have hst := C.2.2.2.2 _ (List.mem_of_getElem? hw)
    have hpre : PreS s H (am_Pc D cl tys b c0 L xs (st.take b').reverse h) ((st.take b').reverse.map (am_r b c0)) := ⟨am_blind, fun U hU hW => ⟨rfl, by rw [hU]; exact hB.1.moved hW.alike⟩⟩
    have hll : ((st.take b').reverse.map (am_r b c0)).length = b' := by rw [List.length_map]; exact hal
    rcases am_okB (E := (pc, 3, .invokestatic idx, a, b', c', d', q)) (d := d) (mc := h2.2.1 - h.2.1) (ms := h2.2.2 - h.2.2) G.1 C hM hC hR with cb | ⟨host, cb⟩
    · exact am_back hm hnx hB K (va_runS C hMet ⟨cb, hst⟩ hpre rfl hll hB.2.1.1 (am_split b' st) hrm hd hf)
    · exact am_back hm hnx hB K (va_runSN C hMet ⟨cb, hst, trivial⟩ hpre rfl hll hB.2.1.1 (am_split b' st) hrm hd hf)
  case invokespecial idx =>
    simp only [am_kd, am_op, am_a] at hk0
    have ha : a ≠ 100000 := fun q => hk0 (by rw [if_pos q])
    simp only [am_ok, am_op, am_pc, am_len, am_a, am_b, Bool.and_eq_true, beq_iff_eq, decide_eq_true_eq, if_neg ha] at hok
    obtain ⟨hd, ⟨hl, hnx⟩, ⟨hb0, hC⟩, hw⟩ := hok
    subst hl
    rw [hM] at hw
    simp only [Bool.and_eq_true, decide_eq_true_eq] at hw
    obtain ⟨⟨hw1, hw2⟩, hw3⟩ := hw
    subst hw2
    have hst := C.2.2.2.2 _ (List.mem_of_getElem? hw3)
    simp only [am_kd, am_op, am_a, if_neg ha] at hrc
    split at hrc
    · rename_i x as hx
      have hpre : PreS s H (am_Pc D cl tys b c0 L xs (st.take b').reverse h) (.ref (am_ad b c0 x) :: as.map (am_r b c0)) := ⟨am_blind, fun U hU hW => ⟨by rw [hx]; rfl, by rw [hU]; exact hB.1.moved hW.alike⟩⟩
      have hll : (as.map (am_r b c0)).length = b' - 1 := by
        rw [List.length_map]
        rw [hx] at hal
        simp only [List.length_cons] at hal
        omega
      have hsp : st.map (am_r b c0) = (as.map (am_r b c0)).reverse ++ .ref (am_ad b c0 x) :: (st.drop b').map (am_r b c0) := by
        rw [am_split b' st, hx]
        simp [am_r]
      rcases am_okB (E := (pc, 3, .invokespecial idx, a, b', c', d', q)) (d := d) (mc := h2.2.1 - h.2.1) (ms := h2.2.2 - h.2.2) G.1 C hM hC hR with cb | ⟨host, cb⟩
      · exact am_back hm hnx hB K (va_runI C hMet ⟨cb, hw1, hst⟩ hpre rfl hll hB.2.1.1 hsp hrm hd hf)
      · exact am_back hm hnx hB K (va_runIN C hMet ⟨cb, hw1, hst⟩ hpre rfl hll hB.2.1.1 hsp hrm hd hf)
    · cases hrc
  case invokevirtual idx =>
    simp only [am_ok, am_op, am_pc, am_len, am_a, am_b, am_c, Bool.and_eq_true, beq_iff_eq, decide_eq_true_eq] at hok
    obtain ⟨hd, ⟨⟨⟨⟨hl, hnx⟩, hb0⟩, hC⟩, hci⟩, hw⟩ := hok
    subst hl
    rw [hM] at hw
    split at hw
    · rename_i y9 x1 x2 x3 pos9 x4 Cn T9 N9 hy hcl
      cases hy
      simp only [Bool.and_eq_true, decide_eq_true_eq] at hw
      obtain ⟨⟨hw1, hw2⟩, hw3⟩ := hw
      subst hw1
      have hst := C.2.2.2.2 _ (List.mem_of_getElem? hw2)
      have hsel := C.2.2.2.2 _ (List.mem_of_getElem? hw3)
      simp only [am_kd, am_op] at hrc
      split at hrc
      · rename_i x as hx
        simp only [Bool.or_eq_true, beq_iff_eq] at hrc
        rcases hrc with hrc | hrc
        · cases hrc
        split at hrc
        · rename_i ci fs hfs
          simp only [beq_iff_eq] at hrc
          subst hrc
          obtain ⟨⟨g1, g2⟩, g3⟩ := hB.1.inr hfs hci
          have hpre : PreV s H y.cls (am_ad b c0 x) (am_Pc D cl tys b c0 L xs (st.take b').reverse h) (as.map (am_r b c0)) := ⟨am_blind, by rw [am_adp g1]; exact va_recv hB.1.2.2.1 (am_P1 g3) hcl (q0 := 0) rfl, fun U hU hW => ⟨by rw [hx]; rfl, by rw [hU]; exact hB.1.moved hW.alike⟩⟩
          have hll : (as.map (am_r b c0)).length = b' - 1 := by
            rw [List.length_map]
            rw [hx] at hal
            simp only [List.length_cons] at hal
            omega
          have hsp : st.map (am_r b c0) = (as.map (am_r b c0)).reverse ++ .ref (am_ad b c0 x) :: (st.drop b').map (am_r b c0) := by
            rw [am_split b' st, hx]
            simp [am_r]
          rcases am_okB (E := (pc, 3, .invokevirtual idx, a, b', c', d', q)) (d := d) (mc := h2.2.1 - h.2.1) (ms := h2.2.2 - h.2.2) G.1 C hM hC hR with cb | ⟨host, cb⟩
          · exact am_back hm hnx hB K (va_runV C hMet ⟨cb, hst, hsel⟩ hpre rfl hll hB.2.1.1 hsp hrm hd hf)
          · exact am_back hm hnx hB K (va_runVN C hMet ⟨cb, hst, hsel⟩ hpre rfl hll hB.2.1.1 hsp hrm hd hf)
        · cases hrc
      · cases hrc
    · cases hw
  all_goals first | exact absurd rfl hk0 | exact absurd rfl hk1
set_option maxHeartbeats 4000000 in
theorem am_simL (G : am_Good Tb cl tyL df MT) (hT : tys.map (fun q => q.2) = tyL) (C : CallFix p m c cc nL s args Tb own) (hnm : meth.name = nm) {d : Nat} (hR : d + 1 ≤ R.frames ∧ (d + 1) * 36 ≤ R.locals)
    {orc : Nat → List Value → am_H → Option (Option Value × am_H)} (ho : ∀ z as h r h1, orc z as h = some (r, h1) → ∃ M, MT[z]? = some M ∧ am_Met l Tb D cl tys b c0 L xs d M as h r h1)
    (hcode : ∀ j E, code[j]? = some E → am_ok Tb cl tyL MT own nm cc nL ret code j E = true) {r : Option Value} {h1 : am_H} (hend : h1.2.1 ≤ h0.2.1 + R.cells ∧ h1.2.2 ≤ h0.2.2 + R.slots)
    (HR : ∀ (E : am_I) (j : Nat) (lv : am_L) (st : List Value) (H : Heap) (locs : List Loc) (ls : Array Slot) (cells slots : Nat), am_kd E = 1 → am_ok Tb cl tyL MT own nm cc nL ret code j E = true → am_ret E st = some r → am_B D cl tys b c0 L xs s h0 nL h1 lv H locs ls cells slots → W p l e R s m args below meth c H locs cells slots Q (F0 m (am_pc E) ls (st.map (am_r b c0)))) :
    ∀ (k : Nat) (X : am_C), am_loop df orc code k X = some (r, h1) → am_K p l e R s m args below meth c Q D cl tys b c0 L xs h0 nL (am_pcs code) X := by
  have homono : ∀ z as h r h1, orc z as h = some (r, h1) → h.2.1 ≤ h1.2.1 ∧ h.2.2 ≤ h1.2.2 := fun z as h r h1 hx => by
    obtain ⟨M, -, hm, -⟩ := ho z as h r h1 hx
    exact hm
  intro k
  induction k with
  | zero => intro X hl; cases hl
  | succ k ih =>
    intro X hl H locs ls cells slots hB
    obtain ⟨j, lv, st, h⟩ := X
    dsimp only at hB ⊢
    unfold am_loop at hl
    split at hl
    · cases hl
    · rename_i E he
      have hpc : am_pcs code j = am_pc E := by simp only [am_pcs, he]
      rw [hpc]
      split at hl
      · rename_i hk
        cases hx : am_next df E j lv st h with
        | none => rw [hx] at hl; cases hl
        | some Y =>
          rw [hx] at hl
          have hl2 : am_loop df orc code k Y = some (r, h1) := hl
          have h3 := am_loop_mono homono k Y r h1 hl2
          exact am_simN G hT C hnm (by have := hR.1; omega) (by have := hR.2; omega) hk (hcode j E he) hx ⟨Nat.le_trans h3.1 hend.1, Nat.le_trans h3.2 hend.2⟩ hB (ih Y hl2)
      · rename_i hk
        cases hx : am_ret E st with
        | none => rw [hx] at hl; cases hl
        | some v =>
          rw [hx] at hl
          cases hl
          exact HR E j lv st H locs ls cells slots hk (hcode j E he) hx hB
      · rename_i hk0 hk1
        split at hl
        · rename_i hcan
          cases hx : orc (am_a E) (st.take (am_b E)).reverse h with
          | none => rw [hx] at hl; cases hl
          | some v =>
            rw [hx] at hl
            obtain ⟨v, h2⟩ := v
            have hl2 : am_loop df orc code k (j + 1, lv, v.toList ++ st.drop (am_b E), h2) = some (r, h1) := hl
            have h3 := am_loop_mono homono k _ r h1 hl2
            dsimp only at h3
            obtain ⟨M, hM, hMet⟩ := ho _ _ _ _ _ hx
            have hm := hMet.1
            have b5 := hB.2.2.2.2.1
            have b6 := hB.2.2.2.2.2
            exact am_w_call G C hR hk0 hk1 (hcode j E he) hcan hM hMet (by omega) hB (ih _ hl2)
        · cases hl
/-- the ends of a method -/
theorem am_ends {r : Option Value} {h1 : am_H} (hx : p.tables.exec = Jvm.exec) (hb : c.code = cc) (hr : meth.sig.returnType = ret) (hlocks : meth.locks = false) {E : am_I} (hk : am_kd E = 1) (hok : am_ok Tb cl tyL MT own nm cc nL ret code j E = true) (hret : am_ret E st = some r) (hB : am_B D cl tys b c0 L xs s h0 nL h1 lv H locs ls cells slots) : W p l e R s m args below meth c H locs cells slots (MQ below (am_Qc D cl tys b c0 L xs r h1) args s cells slots (fun q => c0 < q)) (F0 m (am_pc E) ls (st.map (am_r b c0))) := by
  have hq : ∀ (t : State), t.heap = H → s.WarmedH t.vm → am_Qc D cl tys b c0 L xs r h1 args s (.returned (r.map (am_r b c0))) t := fun t ht hW => ⟨rfl, by rw [ht]; exact hB.1.moved hW.alike, fun q hq => by rw [ht]; exact hB.2.2.1 q hq⟩
  obtain ⟨pc, len, i, a, b', c', d', q⟩ := E
  unfold am_ret at hret
  split at hret
  · rename_i x hop
    simp only [am_op] at hop
    subst hop
    split at hret
    · rename_i hft
      cases hret
      simp only [am_ok, am_op, am_pc, am_len, am_a, am_d, Bool.and_eq_true, decide_eq_true_eq] at hok hft
      obtain ⟨hd, hl, hty⟩ := hok
      subst hl
      split at hty
      · rename_i ty
        simp only [decide_eq_true_eq] at hty
        rw [← hty] at hft
        exact W.zret hx hb hr (am_ft_ok (b := b) (c0 := c0) hft).1 hq hB.2.2.2.1 hd
      · cases hty
    · cases hret
  · rename_i x hop
    simp only [am_op] at hop
    subst hop
    cases hret
    simp only [am_ok, am_op, am_pc, am_len, Bool.and_eq_true, decide_eq_true_eq] at hok
    obtain ⟨hd, hl, hty⟩ := hok
    subst hl
    exact W.lret hx hb (hr.trans hty) hq hB.2.2.2.1 hd
  · rename_i x hop
    simp only [am_op] at hop
    subst hop
    cases hret
    simp only [am_ok, am_op, am_pc, am_len, Bool.and_eq_true, decide_eq_true_eq] at hok
    obtain ⟨hd, hl, hty⟩ := hok
    subst hl
    split at hty
    · exact W.aret hx hb hr (Or.inl ⟨_, rfl⟩) (Or.inr ⟨_, rfl⟩) hq hB.2.2.2.1 hd
    · exact W.aret hx hb hr (Or.inr ⟨_, rfl⟩) (Or.inr ⟨_, rfl⟩) hq hB.2.2.2.1 hd
    · cases hty
  · rename_i hop
    simp only [am_op] at hop
    subst hop
    cases hret
    simp only [am_ok, am_op, am_pc, am_len, Bool.and_eq_true, decide_eq_true_eq] at hok
    obtain ⟨hd, hl, hty⟩ := hok
    subst hl
    split at hty
    · exact W.aret hx hb hr (Or.inl ⟨_, rfl⟩) (Or.inl rfl) hq hB.2.2.2.1 hd
    · exact W.aret hx hb hr (Or.inr ⟨_, rfl⟩) (Or.inl rfl) hq hB.2.2.2.1 hd
    · cases hty
  · rename_i hop
    simp only [am_op] at hop
    subst hop
    cases hret
    simp only [am_ok, am_op, am_pc, am_len, Bool.and_eq_true, decide_eq_true_eq] at hok
    obtain ⟨hd, hl, hty⟩ := hok
    subst hl
    exact W.vret hx hb (hr.trans hty) hq hB.2.2.2.1 hd
  · cases hret
end AMT
theorem am_mok_code {Tb : List Jvm.Cond} {cl : List vw_C} {tyL : List FieldType} {MT : List am_M} {y : MethodName} {bytes : ByteArray} {maxL : Nat} {ret : Option FieldType} {pos : Nat × Nat × Nat × Nat} {code : List am_I} (h : am_mok Tb cl tyL MT (y, bytes, maxL, ret, pos, code) = true) : plainName y.cls = true ∧ Jvm.Cond.code y bytes maxL ret ∈ Tb ∧ maxL ≤ 17 ∧ am_pcs code 0 = 0 ∧ ∀ j E, code[j]? = some E → am_ok Tb cl tyL MT y.cls y.name bytes maxL ret code j E = true := by
  simp only [am_mok, Bool.and_eq_true, decide_eq_true_eq] at h
  obtain ⟨⟨⟨⟨h1, h2⟩, h3⟩, h4⟩, h5⟩ := h
  refine ⟨h1, List.mem_of_getElem? h2, h3, h4, fun j E hE => ?_⟩
  have h6 := List.all_eq_true.mp h5 j (List.mem_range.mpr (List.getElem?_eq_some_iff.mp hE).1)
  rw [hE] at h6
  exact h6
set_option maxHeartbeats 4000000 in
/-- EVERY RUN OF THE NUMBERED MACHINE IS A CONTRACT OF THE REAL ONE -/
theorem am_sim {Tb : List Jvm.Cond} {cl : List vw_C} {tyL : List FieldType} {df : Nat → List Value} {MT : List am_M} (G : am_Good Tb cl tyL df MT) (l : Launch) {D : va_G} {tys : List (ClassId × FieldType)} {b c0 L : Nat} {xs : Nat → Int32} (hT : tys.map (fun q => q.2) = tyL) (F : Nat) :
    ∀ (d z : Nat) (as : List Value) (h : am_H) (r : Option Value) (h1 : am_H), am_call df MT d F z as h = some (r, h1) → ∃ M, MT[z]? = some M ∧ am_Met l Tb D cl tys b c0 L xs d M as h r h1 := by
  intro d
  induction d with
  | zero => intro z as h r h1 hc; cases hc
  | succ d ih =>
    intro z as h r h1 hc
    unfold am_call at hc
    split at hc
    · cases hc
    · rename_i M hM
      split at hc
      · rename_i hlen
        obtain ⟨y, bytes, maxL, ret, pos, code⟩ := M
        dsimp only at hlen hc
        have hmono := am_loop_mono (fun z as h r h1 hx => by
          obtain ⟨M, -, hm, -⟩ := ih z as h r h1 hx
          exact hm) F _ r h1 hc
        dsimp only at hmono
        obtain ⟨g1, g2, g3, g4, g5⟩ := am_mok_code (G.2.2.1 z _ hM)
        refine ⟨_, hM, hmono, ?_⟩
        refine Met.ofW (cc := bytes) (maxL := maxL) (ret := ret) g1 rfl ?_
        intro p e s m args below meth c s₁ BB hml hv
        obtain ⟨rfl, hRR⟩ := hv
        have hts := atoms_spec (ws := am_wsM Tb (y, bytes, maxL, ret, pos, code)) BB.pre
        have hts2 : ∀ w ∈ Tb, w.before (as.map (am_r b c0)).toArray s = true := fun w hw => hts w (List.mem_cons_of_mem _ hw)
        have hown : s.vm.findClass y.cls = some m.cls := findClass_of_methodNamed BB.named
        have hname : meth.name = y.name := (name_of_methodNamed BB.named BB.method).1
        have hl0 := lv_entry (as.map (am_r b c0)) (n := maxL) (by rw [am_sl_len]; exact hlen)
        rw [← am_rl_args] at hl0
        rw [lg_entry_eq]
        have hB0 : am_B D cl tys b c0 L xs s h maxL h (lv_args 0 as) s.heap [] _ 0 0 := ⟨hRR, hl0, fun _ _ => rfl, fun x hx => (by cases hx), rfl, rfl⟩
        have hK := am_simL (Q := MQ below (am_Qc D cl tys b c0 L xs r h1) (as.map (am_r b c0)).toArray s (h1.2.1 - h.2.1) (h1.2.2 - h.2.2) (fun q => c0 < q)) (below := below) (e := e) (R := (headSpec (am_wsM Tb (y, bytes, maxL, ret, pos, code)) (am_rm (d + 1) (h1.2.1 - h.2.1) (h1.2.2 - h.2.2))).room) (h0 := h) G hT ⟨BB.exec, BB.bytes, hml, hown, hts2⟩ hname (d := d) ⟨Nat.le_refl _, Nat.le_refl _⟩ ih g5 (r := r) (h1 := h1) ⟨by show h1.2.1 ≤ h.2.1 + (h1.2.1 - h.2.1); omega, by show h1.2.2 ≤ h.2.2 + (h1.2.2 - h.2.2); omega⟩ (fun E j lv st H locs ls cells slots hk hok hret hB9 => by
          have e5 := hB9.2.2.2.2.1
          have e6 := hB9.2.2.2.2.2
          have w := am_ends (l := l) (e := e) (R := (headSpec (am_wsM Tb (y, bytes, maxL, ret, pos, code)) (am_rm (d + 1) (h1.2.1 - h.2.1) (h1.2.2 - h.2.2))).room) (below := below) (args := (as.map (am_r b c0)).toArray) BB.exec BB.bytes BB.returns BB.notSynchronized hk hok hret hB9
          rw [show cells = h1.2.1 - h.2.1 by omega, show slots = h1.2.2 - h.2.2 by omega] at w ⊢
          exact w) F _ hc
        have hk9 := hK _ _ _ _ _ hB0
        dsimp only at hk9
        rw [g4] at hk9
        exact hk9
      · cases hc
end
section
/-! Reasoning about the numbered machine: from a place a method goes on to its end with Q (am_Go); a method called comes back with Q (am_Ct). -/
theorem am_loop_orc {df : Nat → List Value} {o1 o2 : Nat → List Value → am_H → Option (Option Value × am_H)} {code : List am_I} (ho : ∀ z as h x, o1 z as h = some x → o2 z as h = some x) : ∀ (k k2 : Nat), k ≤ k2 → ∀ (X : am_C) (x : Option Value × am_H), am_loop df o1 code k X = some x → am_loop df o2 code k2 X = some x := by
  intro k
  induction k with
  | zero => intro k2 _ X x hl; cases hl
  | succ k ih =>
    intro k2 hk X x hl
    obtain ⟨k3, rfl⟩ : ∃ k3, k2 = k3 + 1 := ⟨k2 - 1, by omega⟩
    have hk3 : k ≤ k3 := by omega
    obtain ⟨j, lv, st, h⟩ := X
    unfold am_loop at hl ⊢
    cases hc : code[j]? with
    | none => rw [hc] at hl; cases hl
    | some e =>
      rw [hc] at hl
      dsimp only at hl ⊢
      split at hl
      · rename_i hkd
        rw [hkd]
        dsimp only
        cases hx : am_next df e j lv st h with
        | none => rw [hx] at hl; cases hl
        | some Y =>
          rw [hx] at hl
          exact ih k3 hk3 Y x hl
      · rename_i hkd
        rw [hkd]
        exact hl
      · rename_i hk0 hk1
        split
        · rename_i hkd; exact absurd hkd hk0
        · rename_i hkd; exact absurd hkd hk1
        · split at hl
          · rename_i hcan
            rw [if_pos hcan]
            cases hx : o1 (am_a e) (st.take (am_b e)).reverse h with
            | none => rw [hx] at hl; cases hl
            | some v =>
              rw [hx] at hl
              rw [ho _ _ _ _ hx]
              exact ih k3 hk3 _ x hl
          · cases hl
theorem am_call_up {df : Nat → List Value} {MT : List am_M} : ∀ (d d2 F F2 : Nat), d ≤ d2 → F ≤ F2 → ∀ (z : Nat) (as : List Value) (h : am_H) (x : Option Value × am_H), am_call df MT d F z as h = some x → am_call df MT d2 F2 z as h = some x := by
  intro d
  induction d with
  | zero => intro d2 F F2 _ _ z as h x hc; cases hc
  | succ d ih =>
    intro d2 F F2 hd hF z as h x hc
    obtain ⟨d3, rfl⟩ : ∃ d3, d2 = d3 + 1 := ⟨d2 - 1, by omega⟩
    unfold am_call at hc ⊢
    cases hM : MT[z]? with
    | none => rw [hM] at hc; cases hc
    | some M =>
      rw [hM] at hc
      dsimp only at hc ⊢
      split at hc
      · rename_i hl
        rw [if_pos hl]
        exact am_loop_orc (fun z as h x hx => ih d3 F F2 (by omega) hF z as h x hx) F F2 hF _ x hc
      · cases hc
def am_Go (df : Nat → List Value) (MT : List am_M) (d : Nat) (code : List am_I) (X : am_C) (Q : Option Value → am_H → Prop) : Prop :=
  ∃ (F : Nat) (r : Option Value) (h : am_H), am_loop df (am_call df MT d F) code F X = some (r, h) ∧ Q r h
def am_Ct (df : Nat → List Value) (MT : List am_M) (d z : Nat) (as : List Value) (h : am_H) (Q : Option Value → am_H → Prop) : Prop :=
  ∃ (F : Nat) (r : Option Value) (h1 : am_H), am_call df MT d F z as h = some (r, h1) ∧ Q r h1
section AMG
variable {df : Nat → List Value} {MT : List am_M} {d z : Nat} {code : List am_I} {Q Q2 : Option Value → am_H → Prop} {j : Nat} {lv : am_L} {st as : List Value} {h : am_H} {X : am_C}
theorem am_Go.mono (g : am_Go df MT d code X Q) (hq : ∀ r h, Q r h → Q2 r h) : am_Go df MT d code X Q2 := by
  obtain ⟨F, r, h1, a, b⟩ := g
  exact ⟨F, r, h1, a, hq r h1 b⟩
theorem am_Ct.mono (g : am_Ct df MT d z as h Q) (hq : ∀ r h, Q r h → Q2 r h) : am_Ct df MT d z as h Q2 := by
  obtain ⟨F, r, h1, a, b⟩ := g
  exact ⟨F, r, h1, a, hq r h1 b⟩
theorem am_Ct.up {d2 : Nat} (g : am_Ct df MT d z as h Q) (hd : d ≤ d2) : am_Ct df MT d2 z as h Q := by
  obtain ⟨F, r, h1, a, b⟩ := g
  exact ⟨F, r, h1, am_call_up d d2 F F hd (Nat.le_refl F) z as h _ a, b⟩
theorem am_go_next {e : am_I} (he : code[j]? = some e) (hk : am_kd e = 0) {Y : am_C} (hn : am_next df e j lv st h = some Y) (g : am_Go df MT d code Y Q) : am_Go df MT d code (j, lv, st, h) Q := by
  obtain ⟨F, r, h1, a, b⟩ := g
  refine ⟨F + 1, r, h1, ?_, b⟩
  unfold am_loop
  rw [he]
  dsimp only
  rw [hk]
  dsimp only
  rw [hn]
  exact am_loop_orc (fun z as h x hx => am_call_up d d F (F + 1) (Nat.le_refl d) (Nat.le_succ F) z as h x hx) F F (Nat.le_refl F) Y _ a
theorem am_go_ret {e : am_I} (he : code[j]? = some e) (hk : am_kd e = 1) {r : Option Value} (hr : am_ret e st = some r) (hq : Q r h) : am_Go df MT d code (j, lv, st, h) Q := by
  refine ⟨1, r, h, ?_, hq⟩
  unfold am_loop
  rw [he]
  dsimp only
  rw [hk]
  dsimp only
  rw [hr]
  rfl
theorem am_go_call {e : am_I} (he : code[j]? = some e) (hk0 : am_kd e ≠ 0) (hk1 : am_kd e ≠ 1) (hc : am_can e st h = true) (g : am_Ct df MT d (am_a e) (st.take (am_b e)).reverse h (fun v h2 => am_Go df MT d code (j + 1, lv, v.toList ++ st.drop (am_b e), h2) Q)) : am_Go df MT d code (j, lv, st, h) Q := by
  obtain ⟨F1, v, h2, a1, F2, r, h1, a2, b⟩ := g
  have u : ∀ F, F1 ≤ F → F2 ≤ F → ∀ z as h x, am_call df MT d F2 z as h = some x → am_call df MT d (F + 1) z as h = some x := fun F _ f2 z as h x hx => am_call_up d d F2 (F + 1) (Nat.le_refl d) (by omega) z as h x hx
  refine ⟨F1 + F2 + 1, r, h1, ?_, b⟩
  have a3 := am_call_up d d F1 (F1 + F2 + 1) (Nat.le_refl d) (by omega) _ _ _ _ a1
  have a4 := am_loop_orc (u (F1 + F2) (by omega) (by omega)) F2 (F1 + F2) (by omega) _ _ a2
  unfold am_loop
  rw [he]
  dsimp only
  split
  · rename_i hkd; exact absurd hkd hk0
  · rename_i hkd; exact absurd hkd hk1
  · rw [if_pos hc, a3]
    exact a4
theorem am_ct_of {M : am_M} (hM : MT[z]? = some M) (hl : (lg_sl as).length ≤ M.2.2.1) (g : am_Go df MT d M.2.2.2.2.2 (0, lv_args 0 as, [], h) Q) : am_Ct df MT (d + 1) z as h Q := by
  obtain ⟨F, r, h1, a, b⟩ := g
  refine ⟨F, r, h1, ?_, b⟩
  unfold am_call
  rw [hM]
  dsimp only
  rw [if_pos hl]
  exact a
end AMG
def am_o (o : Option am_C) (P : am_C → Prop) : Prop := match o with
  | some Y => P Y
  | none => False
def am_q1 (o : Option (Option Value)) (P : Option Value → Prop) : Prop := match o with
  | some Y => P Y
  | none => False
/-- one STEP of the machine -/
def am_S (df : Nat → List Value) (MT : List am_M) (d : Nat) (e : am_I) (j : Nat) (lv : am_L) (st : List Value) (h : am_H) (P : am_C → Prop) (Q : Option Value → am_H → Prop) : Prop := match am_kd e with
  | 0 => am_o (am_next df e j lv st h) P
  | 1 => am_q1 (am_ret e st) (fun r => Q r h)
  | _ => am_can e st h = true ∧ am_Ct df MT d (am_a e) (st.take (am_b e)).reverse h (fun v h2 => P (j + 1, lv, v.toList ++ st.drop (am_b e), h2))
/-- up to n STEPS, not beyond the places of 'cuts' -/
def am_W (df : Nat → List Value) (MT : List am_M) (d : Nat) (code : List am_I) (cuts : List Nat) (Q : Option Value → am_H → Prop) : Nat → am_C → Prop
  | 0, X => am_Go df MT d code X Q
  | n + 1, (j, lv, st, h) => if j ∈ cuts then am_Go df MT d code (j, lv, st, h) Q else match code[j]? with
    | some e => am_S df MT d e j lv st h (am_W df MT d code cuts Q n) Q
    | none => False
theorem am_S_go {df : Nat → List Value} {MT : List am_M} {d : Nat} {code : List am_I} {Q : Option Value → am_H → Prop} {e : am_I} {j : Nat} {lv : am_L} {st : List Value} {h : am_H} {P : am_C → Prop} (he : code[j]? = some e) (hP : ∀ X, P X → am_Go df MT d code X Q) (w : am_S df MT d e j lv st h P Q) : am_Go df MT d code (j, lv, st, h) Q := by
  unfold am_S at w
  split at w
  · rename_i hk
    cases hn : am_next df e j lv st h with
    | none => rw [hn] at w; exact absurd w id
    | some Y => rw [hn] at w; exact am_go_next he hk hn (hP Y w)
  · rename_i hk
    cases hn : am_ret e st with
    | none => rw [hn] at w; exact absurd w id
    | some r => rw [hn] at w; exact am_go_ret he hk hn w
  · rename_i hk0 hk1
    exact am_go_call he hk0 hk1 w.1 (w.2.mono (fun v h2 hx => hP _ hx))
theorem am_W_go {df : Nat → List Value} {MT : List am_M} {d : Nat} {code : List am_I} {cuts : List Nat} {Q : Option Value → am_H → Prop} : ∀ (n : Nat) (X : am_C), am_W df MT d code cuts Q n X → am_Go df MT d code X Q := by
  intro n
  induction n with
  | zero => intro X w; exact w
  | succ n ih =>
    intro X w
    obtain ⟨j, lv, st, h⟩ := X
    unfold am_W at w
    split at w
    · exact w
    · split at w
      · rename_i e he
        exact am_S_go he ih w
      · exact absurd w id
/-- from a place that may itself be one of 'cuts' -/
theorem am_go_of {df : Nat → List Value} {MT : List am_M} {d : Nat} {code : List am_I} {Q : Option Value → am_H → Prop} {j : Nat} {lv : am_L} {st : List Value} {h : am_H} (n : Nat) (cuts : List Nat) (e : am_I) (he : code[j]? = some e) (w : am_S df MT d e j lv st h (am_W df MT d code cuts Q n) Q) : am_Go df MT d code (j, lv, st, h) Q :=
  am_S_go he (am_W_go n) w
end
section
/-! Rows for 'simp only': a STEP of the numbered machine at each instruction. -/
section SX
variable {df : Nat → List Value} {MT : List am_M} {dp : Nat} {pc len a b c d q j : Nat} {lv : am_L} {st r : List Value} {h : am_H} {P : am_C → Prop} {Q : Option Value → am_H → Prop}
theorem am_o_some (Y : am_C) (P : am_C → Prop) : am_o (some Y) P = P Y := rfl
theorem am_o_none (P : am_C → Prop) : am_o none P = False := rfl
theorem am_o_ite {p : Prop} [Decidable p] (x y : Option am_C) (P : am_C → Prop) : am_o (if p then x else y) P = if p then am_o x P else am_o y P := by
  split <;> rfl
theorem am_o_bad {p : Prop} [Decidable p] (y : Option am_C) (P : am_C → Prop) : am_o (if p then none else y) P = (¬ p ∧ am_o y P) := by
  split
  · rename_i hp
    exact propext ⟨fun q => absurd q id, fun q => q.1 hp⟩
  · rename_i hp
    exact propext ⟨fun q => ⟨hp, q⟩, fun q => q.2⟩
theorem am_o_good {p : Prop} [Decidable p] (y : Option am_C) (P : am_C → Prop) : am_o (if p then y else none) P = (p ∧ am_o y P) := by
  split
  · rename_i hp
    exact propext ⟨fun q => ⟨hp, q⟩, fun q => q.2⟩
  · rename_i hp
    exact propext ⟨fun q => absurd q id, fun q => hp q.1⟩
theorem sx_iconst {n : Int} : am_S df MT dp (pc, len, .iconst n, a, b, c, d, q) j lv st h P Q = P (j + 1, lv, .int (Int32.ofInt n) :: st, h) := rfl
theorem sx_bipush {n : Int} : am_S df MT dp (pc, len, .bipush n, a, b, c, d, q) j lv st h P Q = P (j + 1, lv, .int (Int8.ofInt n).toInt32 :: st, h) := rfl
theorem sx_sipush {n : Int} : am_S df MT dp (pc, len, .sipush n, a, b, c, d, q) j lv st h P Q = P (j + 1, lv, .int (Int16.ofInt n).toInt32 :: st, h) := rfl
theorem sx_lconst {n : Fin 2} : am_S df MT dp (pc, len, .lconst n, a, b, c, d, q) j lv st h P Q = P (j + 1, lv, .long (Int64.ofNat a) :: st, h) := rfl
theorem sx_ldc {n : Nat} : am_S df MT dp (pc, len, .ldc n, a, b, c, d, q) j lv st h P Q = P (j + 1, lv, .int (Int32.ofNat a) :: st, h) := rfl
theorem sx_ldc2_w {n : Nat} : am_S df MT dp (pc, len, .ldc2_w n, a, b, c, d, q) j lv st h P Q = P (j + 1, lv, .long (Int64.ofNat a) :: st, h) := rfl
theorem sx_aconst_null : am_S df MT dp (pc, len, .aconst_null, a, b, c, d, q) j lv st h P Q = P (j + 1, lv, .null :: st, h) := rfl
theorem sx_iload_n {n : Fin 4} : am_S df MT dp (pc, len, .iload_n n, a, b, c, d, q) j lv st h P Q = am_o (am_ldi lv a (fun v => some (j + 1, lv, v :: st, h))) P := rfl
theorem sx_iload {n : Nat} : am_S df MT dp (pc, len, .iload n, a, b, c, d, q) j lv st h P Q = am_o (am_ldi lv a (fun v => some (j + 1, lv, v :: st, h))) P := rfl
theorem sx_lload_n {n : Fin 4} : am_S df MT dp (pc, len, .lload_n n, a, b, c, d, q) j lv st h P Q = am_o (am_ldl lv a (fun v => some (j + 1, lv, v :: st, h))) P := rfl
theorem sx_lload {n : Nat} : am_S df MT dp (pc, len, .lload n, a, b, c, d, q) j lv st h P Q = am_o (am_ldl lv a (fun v => some (j + 1, lv, v :: st, h))) P := rfl
theorem sx_aload_n {n : Fin 4} : am_S df MT dp (pc, len, .aload_n n, a, b, c, d, q) j lv st h P Q = am_o (am_lda lv a (fun v => some (j + 1, lv, v :: st, h))) P := rfl
theorem sx_aload {n : Nat} : am_S df MT dp (pc, len, .aload n, a, b, c, d, q) j lv st h P Q = am_o (am_lda lv a (fun v => some (j + 1, lv, v :: st, h))) P := rfl
theorem sx_istore_n {n : Fin 4} {x : Int32} : am_S df MT dp (pc, len, .istore_n n, a, b, c, d, q) j lv (.int x :: r) h P Q = P (j + 1, am_s1 lv a (.int x), r, h) := rfl
theorem sx_istore {n : Nat} {x : Int32} : am_S df MT dp (pc, len, .istore n, a, b, c, d, q) j lv (.int x :: r) h P Q = P (j + 1, am_s1 lv a (.int x), r, h) := rfl
theorem sx_lstore_n {n : Fin 4} {x : Int64} : am_S df MT dp (pc, len, .lstore_n n, a, b, c, d, q) j lv (.long x :: r) h P Q = P (j + 1, am_s2 lv a (.long x), r, h) := rfl
theorem sx_lstore {n : Nat} {x : Int64} : am_S df MT dp (pc, len, .lstore n, a, b, c, d, q) j lv (.long x :: r) h P Q = P (j + 1, am_s2 lv a (.long x), r, h) := rfl
theorem sx_astore_n {n : Fin 4} {x : Nat} : am_S df MT dp (pc, len, .astore_n n, a, b, c, d, q) j lv (.ref x :: r) h P Q = P (j + 1, am_s1 lv a (.ref x), r, h) := rfl
theorem sx_astore {n : Nat} {x : Nat} : am_S df MT dp (pc, len, .astore n, a, b, c, d, q) j lv (.ref x :: r) h P Q = P (j + 1, am_s1 lv a (.ref x), r, h) := rfl
theorem sx_iinc {k : Nat} {n : Int} : am_S df MT dp (pc, len, .iinc k n, a, b, c, d, q) j lv st h P Q = am_o (am_inc lv k n (fun l => some (j + 1, l, st, h))) P := rfl
theorem sx_iadd {x y : Int32} : am_S df MT dp (pc, len, .iadd, a, b, c, d, q) j lv (.int y :: .int x :: r) h P Q = P (j + 1, lv, .int (x + y) :: r, h) := rfl
theorem sx_isub {x y : Int32} : am_S df MT dp (pc, len, .isub, a, b, c, d, q) j lv (.int y :: .int x :: r) h P Q = P (j + 1, lv, .int (x - y) :: r, h) := rfl
theorem sx_imul {x y : Int32} : am_S df MT dp (pc, len, .imul, a, b, c, d, q) j lv (.int y :: .int x :: r) h P Q = P (j + 1, lv, .int (x * y) :: r, h) := rfl
theorem sx_iand {x y : Int32} : am_S df MT dp (pc, len, .iand, a, b, c, d, q) j lv (.int y :: .int x :: r) h P Q = P (j + 1, lv, .int (x &&& y) :: r, h) := rfl
theorem sx_ior {x y : Int32} : am_S df MT dp (pc, len, .ior, a, b, c, d, q) j lv (.int y :: .int x :: r) h P Q = P (j + 1, lv, .int (x ||| y) :: r, h) := rfl
theorem sx_ixor {x y : Int32} : am_S df MT dp (pc, len, .ixor, a, b, c, d, q) j lv (.int y :: .int x :: r) h P Q = P (j + 1, lv, .int (x ^^^ y) :: r, h) := rfl
theorem sx_ishl {x y : Int32} : am_S df MT dp (pc, len, .ishl, a, b, c, d, q) j lv (.int y :: .int x :: r) h P Q = P (j + 1, lv, .int (x <<< (y &&& 31)) :: r, h) := rfl
theorem sx_ishr {x y : Int32} : am_S df MT dp (pc, len, .ishr, a, b, c, d, q) j lv (.int y :: .int x :: r) h P Q = P (j + 1, lv, .int (x >>> (y &&& 31)) :: r, h) := rfl
theorem sx_iushr {x y : Int32} : am_S df MT dp (pc, len, .iushr, a, b, c, d, q) j lv (.int y :: .int x :: r) h P Q = P (j + 1, lv, .int ((x.toUInt32 >>> (y.toUInt32 &&& Int32.toUInt32 31)).toInt32) :: r, h) := rfl
theorem sx_idiv {x y : Int32} : am_S df MT dp (pc, len, .idiv, a, b, c, d, q) j lv (.int y :: .int x :: r) h P Q = am_o (if y = 0 then none else some (j + 1, lv, .int (x / y) :: r, h)) P := rfl
theorem sx_irem {x y : Int32} : am_S df MT dp (pc, len, .irem, a, b, c, d, q) j lv (.int y :: .int x :: r) h P Q = am_o (if y = 0 then none else some (j + 1, lv, .int (x - x / y * y) :: r, h)) P := rfl
theorem sx_ineg {x : Int32} : am_S df MT dp (pc, len, .ineg, a, b, c, d, q) j lv (.int x :: r) h P Q = P (j + 1, lv, .int (-x) :: r, h) := rfl
theorem sx_ladd {x y : Int64} : am_S df MT dp (pc, len, .ladd, a, b, c, d, q) j lv (.long y :: .long x :: r) h P Q = P (j + 1, lv, .long (x + y) :: r, h) := rfl
theorem sx_lsub {x y : Int64} : am_S df MT dp (pc, len, .lsub, a, b, c, d, q) j lv (.long y :: .long x :: r) h P Q = P (j + 1, lv, .long (x - y) :: r, h) := rfl
theorem sx_lmul {x y : Int64} : am_S df MT dp (pc, len, .lmul, a, b, c, d, q) j lv (.long y :: .long x :: r) h P Q = P (j + 1, lv, .long (x * y) :: r, h) := rfl
theorem sx_land {x y : Int64} : am_S df MT dp (pc, len, .land, a, b, c, d, q) j lv (.long y :: .long x :: r) h P Q = P (j + 1, lv, .long (x &&& y) :: r, h) := rfl
theorem sx_lor {x y : Int64} : am_S df MT dp (pc, len, .lor, a, b, c, d, q) j lv (.long y :: .long x :: r) h P Q = P (j + 1, lv, .long (x ||| y) :: r, h) := rfl
theorem sx_lxor {x y : Int64} : am_S df MT dp (pc, len, .lxor, a, b, c, d, q) j lv (.long y :: .long x :: r) h P Q = P (j + 1, lv, .long (x ^^^ y) :: r, h) := rfl
theorem sx_lshl {x : Int64} {y : Int32} : am_S df MT dp (pc, len, .lshl, a, b, c, d, q) j lv (.int y :: .long x :: r) h P Q = P (j + 1, lv, .long (x <<< (y.toInt64 &&& 63)) :: r, h) := rfl
theorem sx_lshr {x : Int64} {y : Int32} : am_S df MT dp (pc, len, .lshr, a, b, c, d, q) j lv (.int y :: .long x :: r) h P Q = P (j + 1, lv, .long (x >>> (y.toInt64 &&& 63)) :: r, h) := rfl
theorem sx_lushr {x : Int64} {y : Int32} : am_S df MT dp (pc, len, .lushr, a, b, c, d, q) j lv (.int y :: .long x :: r) h P Q = P (j + 1, lv, .long ((x.toUInt64 >>> (y.toInt64.toUInt64 &&& Int64.toUInt64 63)).toInt64) :: r, h) := rfl
theorem sx_lcmp {x y : Int64} : am_S df MT dp (pc, len, .lcmp, a, b, c, d, q) j lv (.long y :: .long x :: r) h P Q = P (j + 1, lv, .int (lg_cmp x y) :: r, h) := rfl
theorem sx_i2l {x : Int32} : am_S df MT dp (pc, len, .i2l, a, b, c, d, q) j lv (.int x :: r) h P Q = P (j + 1, lv, .long x.toInt64 :: r, h) := rfl
theorem sx_l2i {x : Int64} : am_S df MT dp (pc, len, .l2i, a, b, c, d, q) j lv (.long x :: r) h P Q = P (j + 1, lv, .int x.toInt32 :: r, h) := rfl
theorem sx_i2b {x : Int32} : am_S df MT dp (pc, len, .i2b, a, b, c, d, q) j lv (.int x :: r) h P Q = P (j + 1, lv, .int x.toInt8.toInt32 :: r, h) := rfl
theorem sx_dup_r {x : Nat} : am_S df MT dp (pc, len, .dup, a, b, c, d, q) j lv (.ref x :: r) h P Q = P (j + 1, lv, .ref x :: .ref x :: r, h) := rfl
theorem sx_dup_i {x : Int32} : am_S df MT dp (pc, len, .dup, a, b, c, d, q) j lv (.int x :: r) h P Q = P (j + 1, lv, .int x :: .int x :: r, h) := rfl
theorem sx_pop_r {x : Nat} : am_S df MT dp (pc, len, .pop, a, b, c, d, q) j lv (.ref x :: r) h P Q = P (j + 1, lv, r, h) := rfl
theorem sx_pop_i {x : Int32} : am_S df MT dp (pc, len, .pop, a, b, c, d, q) j lv (.int x :: r) h P Q = P (j + 1, lv, r, h) := rfl
theorem sx_dup2_ir {x : Int32} {y : Nat} : am_S df MT dp (pc, len, .dup2, a, b, c, d, q) j lv (.int x :: .ref y :: r) h P Q = P (j + 1, lv, .int x :: .ref y :: .int x :: .ref y :: r, h) := rfl
theorem sx_dup_x1_ir {x : Int32} {y : Nat} : am_S df MT dp (pc, len, .dup_x1, a, b, c, d, q) j lv (.int x :: .ref y :: r) h P Q = P (j + 1, lv, .int x :: .ref y :: .int x :: r, h) := rfl
theorem sx_ifCond_eq {x : Int32} {o : Int} : am_S df MT dp (pc, len, .ifCond .eq o, a, b, c, d, q) j lv (.int x :: r) h P Q = if x = 0 then P (a, lv, r, h) else P (j + 1, lv, r, h) := by
  show am_o (if x = 0 then _ else _) P = _
  rw [am_o_ite]
  rfl
theorem sx_if_icmp_eq {x y : Int32} {o : Int} : am_S df MT dp (pc, len, .if_icmp .eq o, a, b, c, d, q) j lv (.int y :: .int x :: r) h P Q = if x = y then P (a, lv, r, h) else P (j + 1, lv, r, h) := by
  show am_o (if x = y then _ else _) P = _
  rw [am_o_ite]
  rfl
theorem sx_ifCond_ne {x : Int32} {o : Int} : am_S df MT dp (pc, len, .ifCond .ne o, a, b, c, d, q) j lv (.int x :: r) h P Q = if x = 0 then P (j + 1, lv, r, h) else P (a, lv, r, h) := by
  show am_o (if x = 0 then _ else _) P = _
  rw [am_o_ite]
  rfl
theorem sx_if_icmp_ne {x y : Int32} {o : Int} : am_S df MT dp (pc, len, .if_icmp .ne o, a, b, c, d, q) j lv (.int y :: .int x :: r) h P Q = if x = y then P (j + 1, lv, r, h) else P (a, lv, r, h) := by
  show am_o (if x = y then _ else _) P = _
  rw [am_o_ite]
  rfl
theorem sx_ifCond_lt {x : Int32} {o : Int} : am_S df MT dp (pc, len, .ifCond .lt o, a, b, c, d, q) j lv (.int x :: r) h P Q = if x < 0 then P (a, lv, r, h) else P (j + 1, lv, r, h) := by
  show am_o (if x < 0 then _ else _) P = _
  rw [am_o_ite]
  rfl
theorem sx_if_icmp_lt {x y : Int32} {o : Int} : am_S df MT dp (pc, len, .if_icmp .lt o, a, b, c, d, q) j lv (.int y :: .int x :: r) h P Q = if x < y then P (a, lv, r, h) else P (j + 1, lv, r, h) := by
  show am_o (if x < y then _ else _) P = _
  rw [am_o_ite]
  rfl
theorem sx_ifCond_ge {x : Int32} {o : Int} : am_S df MT dp (pc, len, .ifCond .ge o, a, b, c, d, q) j lv (.int x :: r) h P Q = if 0 ≤ x then P (a, lv, r, h) else P (j + 1, lv, r, h) := by
  show am_o (if 0 ≤ x then _ else _) P = _
  rw [am_o_ite]
  rfl
theorem sx_if_icmp_ge {x y : Int32} {o : Int} : am_S df MT dp (pc, len, .if_icmp .ge o, a, b, c, d, q) j lv (.int y :: .int x :: r) h P Q = if y ≤ x then P (a, lv, r, h) else P (j + 1, lv, r, h) := by
  show am_o (if y ≤ x then _ else _) P = _
  rw [am_o_ite]
  rfl
theorem sx_ifCond_gt {x : Int32} {o : Int} : am_S df MT dp (pc, len, .ifCond .gt o, a, b, c, d, q) j lv (.int x :: r) h P Q = if 0 < x then P (a, lv, r, h) else P (j + 1, lv, r, h) := by
  show am_o (if 0 < x then _ else _) P = _
  rw [am_o_ite]
  rfl
theorem sx_if_icmp_gt {x y : Int32} {o : Int} : am_S df MT dp (pc, len, .if_icmp .gt o, a, b, c, d, q) j lv (.int y :: .int x :: r) h P Q = if y < x then P (a, lv, r, h) else P (j + 1, lv, r, h) := by
  show am_o (if y < x then _ else _) P = _
  rw [am_o_ite]
  rfl
theorem sx_ifCond_le {x : Int32} {o : Int} : am_S df MT dp (pc, len, .ifCond .le o, a, b, c, d, q) j lv (.int x :: r) h P Q = if x ≤ 0 then P (a, lv, r, h) else P (j + 1, lv, r, h) := by
  show am_o (if x ≤ 0 then _ else _) P = _
  rw [am_o_ite]
  rfl
theorem sx_if_icmp_le {x y : Int32} {o : Int} : am_S df MT dp (pc, len, .if_icmp .le o, a, b, c, d, q) j lv (.int y :: .int x :: r) h P Q = if x ≤ y then P (a, lv, r, h) else P (j + 1, lv, r, h) := by
  show am_o (if x ≤ y then _ else _) P = _
  rw [am_o_ite]
  rfl
theorem sx_goto {o : Int} : am_S df MT dp (pc, len, .goto o, a, b, c, d, q) j lv st h P Q = P (a, lv, st, h) := rfl
theorem sx_ifnull_n {o : Int} : am_S df MT dp (pc, len, .ifnull o, a, b, c, d, q) j lv (.null :: r) h P Q = P (a, lv, r, h) := rfl
theorem sx_ifnull_r {o : Int} {x : Nat} : am_S df MT dp (pc, len, .ifnull o, a, b, c, d, q) j lv (.ref x :: r) h P Q = P (j + 1, lv, r, h) := rfl
theorem sx_ifnonnull_n {o : Int} : am_S df MT dp (pc, len, .ifnonnull o, a, b, c, d, q) j lv (.null :: r) h P Q = P (j + 1, lv, r, h) := rfl
theorem sx_ifnonnull_r {o : Int} {x : Nat} : am_S df MT dp (pc, len, .ifnonnull o, a, b, c, d, q) j lv (.ref x :: r) h P Q = P (a, lv, r, h) := rfl
theorem sx_getfield {n x : Nat} : am_S df MT dp (pc, len, .getfield n, a, b, c, d, q) j lv (.ref x :: r) h P Q = am_o (am_ob (h.1 x) a (fun fs => am_fd fs b (fun v => some (j + 1, lv, v :: r, h)))) P := rfl
theorem sx_putfield {n x : Nat} {v : Value} : am_S df MT dp (pc, len, .putfield n, a, b, c, d, q) j lv (v :: .ref x :: r) h P Q = am_o (am_ob (h.1 x) a (fun fs => if b < fs.length ∧ am_ft d v = true then some (j + 1, lv, r, am_put h x (.inr (a, fs.set b v))) else none)) P := rfl
theorem sx_iaload {i : Int32} {x : Nat} : am_S df MT dp (pc, len, .iaload, a, b, c, d, q) j lv (.int i :: .ref x :: r) h P Q = am_o (am_ai (h.1 x) 0 i (fun _ f => some (j + 1, lv, .int (f i.toNatClampNeg) :: r, h))) P := rfl
theorem sx_baload {i : Int32} {x : Nat} : am_S df MT dp (pc, len, .baload, a, b, c, d, q) j lv (.int i :: .ref x :: r) h P Q = am_o (am_ab (h.1 x) i (fun _ _ f => some (j + 1, lv, .int (f i.toNatClampNeg) :: r, h))) P := rfl
theorem sx_laload {i : Int32} {x : Nat} : am_S df MT dp (pc, len, .laload, a, b, c, d, q) j lv (.int i :: .ref x :: r) h P Q = am_o (am_al (h.1 x) 1 i (fun _ f => some (j + 1, lv, .long (f i.toNatClampNeg) :: r, h))) P := rfl
theorem sx_aaload {i : Int32} {x : Nat} : am_S df MT dp (pc, len, .aaload, a, b, c, d, q) j lv (.int i :: .ref x :: r) h P Q = am_o (am_aq (h.1 x) i (fun _ f => some (j + 1, lv, va_rf (f i.toNatClampNeg) :: r, h))) P := rfl
theorem sx_iastore {i v : Int32} {x : Nat} : am_S df MT dp (pc, len, .iastore, a, b, c, d, q) j lv (.int v :: .int i :: .ref x :: r) h P Q = am_o (am_ai (h.1 x) 0 i (fun n f => if x = 0 then none else some (j + 1, lv, r, am_put h x (.inl (0, n, .inl (upd f i.toNatClampNeg v)))))) P := rfl
theorem sx_bastore {i v : Int32} {x : Nat} : am_S df MT dp (pc, len, .bastore, a, b, c, d, q) j lv (.int v :: .int i :: .ref x :: r) h P Q = am_o (am_ab (h.1 x) i (fun u n f => if x = 0 then none else some (j + 1, lv, r, am_put h x (.inl (u, n, .inl (upd f i.toNatClampNeg (vp_nar (if u = 2 then .byte else .boolean) v))))))) P := rfl
theorem sx_lastore {i : Int32} {v : Int64} {x : Nat} : am_S df MT dp (pc, len, .lastore, a, b, c, d, q) j lv (.long v :: .int i :: .ref x :: r) h P Q = am_o (am_al (h.1 x) 1 i (fun n f => if x = 0 then none else some (j + 1, lv, r, am_put h x (.inl (1, n, .inr (.inl (vp_updL f i.toNatClampNeg v))))))) P := rfl
theorem sx_arraylength {x : Nat} : am_S df MT dp (pc, len, .arraylength, a, b, c, d, q) j lv (.ref x :: r) h P Q = am_o (am_al0 (h.1 x) (fun n => some (j + 1, lv, .int (Int32.ofNat n) :: r, h))) P := rfl
theorem sx_newarray {t : ArrayType} {n : Int32} : am_S df MT dp (pc, len, .newarray t, a, b, c, d, q) j lv (.int n :: r) h P Q = am_o (if n < 0 ∨ 1000000 < n.toNatClampNeg then none else some (j + 1, lv, .ref h.2.1 :: r, am_mk h (.inl (a, n.toNatClampNeg, am_zero a)) n.toNatClampNeg)) P := rfl
theorem sx_multi {u w : Nat} {n k : Int32} : am_S df MT dp (pc, len, .multianewarray u w, a, b, c, d, q) j lv (.int k :: .int n :: r) h P Q = am_o (if n < 0 ∨ 1000 < n.toNatClampNeg ∨ k < 0 ∨ 1000000 < k.toNatClampNeg then none else some (j + 1, lv, .ref h.2.1 :: r, am_mk2 h a b n.toNatClampNeg k.toNatClampNeg (am_zero b))) P := rfl
theorem sx_new {n : Nat} : am_S df MT dp (pc, len, .new n, a, b, c, d, q) j lv st h P Q = P (j + 1, lv, .ref h.2.1 :: st, am_mk h (.inr (a, df a)) (df a).length) := rfl
theorem sx_objInit {n x : Nat} : am_S df MT dp (pc, len, .invokespecial n, 100000, b, c, d, q) j lv (.ref x :: r) h P Q = am_o (if (r.map fun v => v.category).sum ≤ 8 then some (j + 1, lv, r, h) else none) P := rfl
theorem sx_init {n : Nat} (ha : a ≠ 100000) : am_S df MT dp (pc, len, .invokespecial n, a, b, c, d, q) j lv st h P Q = (am_can (pc, len, .invokespecial n, a, b, c, d, q) st h = true ∧ am_Ct df MT dp a (st.take b).reverse h (fun v h2 => P (j + 1, lv, v.toList ++ st.drop b, h2))) := by
  have hk : am_kd (pc, len, .invokespecial n, a, b, c, d, q) = 4 := by
    show (if a = 100000 then 0 else 4) = 4
    rw [if_neg ha]
  unfold am_S
  rw [hk]
theorem sx_static {n : Nat} : am_S df MT dp (pc, len, .invokestatic n, a, b, c, d, q) j lv st h P Q = (am_can (pc, len, .invokestatic n, a, b, c, d, q) st h = true ∧ am_Ct df MT dp a (st.take b).reverse h (fun v h2 => P (j + 1, lv, v.toList ++ st.drop b, h2))) := rfl
theorem sx_virtual {n : Nat} : am_S df MT dp (pc, len, .invokevirtual n, a, b, c, d, q) j lv st h P Q = (am_can (pc, len, .invokevirtual n, a, b, c, d, q) st h = true ∧ am_Ct df MT dp a (st.take b).reverse h (fun v h2 => P (j + 1, lv, v.toList ++ st.drop b, h2))) := rfl
theorem sx_ireturn0 {x : Int32} : am_S df MT dp (pc, len, (.ireturn), a, b, c, d, q) j lv [.int x] h P Q = am_q1 (if am_ft d (.int x) = true then some (some (.int x)) else none) (fun r => Q r h) := rfl
theorem sx_lreturn {x : Int64} : am_S df MT dp (pc, len, (.lreturn), a, b, c, d, q) j lv [.long x] h P Q = Q (some (.long x)) h := rfl
theorem sx_areturn {x : Nat} : am_S df MT dp (pc, len, (.areturn), a, b, c, d, q) j lv [.ref x] h P Q = Q (some (.ref x)) h := rfl
theorem sx_areturn_n : am_S df MT dp (pc, len, (.areturn), a, b, c, d, q) j lv [.null] h P Q = Q (some .null) h := rfl
theorem sx_return : am_S df MT dp (pc, len, (.return_), a, b, c, d, q) j lv [] h P Q = Q none h := rfl
theorem sx_ireturn {x : Int32} : am_S df MT dp (pc, len, .ireturn, a, b, c, 0, q) j lv [.int x] h P Q = Q (some (.int x)) h := rfl
theorem sx_zreturn {x : Int32} : am_S df MT dp (pc, len, .ireturn, a, b, c, 3, q) j lv [.int x] h P Q = ((x = 0 ∨ x = 1) ∧ Q (some (.int x)) h) := by
  show am_q1 (if (x == 0 || x == 1) = true then some (some (.int x)) else none) (fun r => Q r h) = _
  split
  · rename_i hp
    simp only [Bool.or_eq_true, beq_iff_eq] at hp
    exact propext ⟨fun q => ⟨hp, q⟩, fun q => q.2⟩
  · rename_i hp
    simp only [Bool.or_eq_true, beq_iff_eq] at hp
    exact propext ⟨fun q => absurd q id, fun q => hp q.1⟩
theorem am_ldi_hit {k : Nat} {x : Int32} {l : am_L} {g : Value → Option am_C} : am_ldi ((k, .int x) :: l) k g = g (.int x) := by simp [am_ldi, am_lk]
theorem am_ldi_miss {i k : Nat} {v : Value} {l : am_L} {g : Value → Option am_C} (hi : i ≠ k) : am_ldi ((i, v) :: l) k g = am_ldi l k g := by simp [am_ldi, am_lk, hi]
theorem am_ldl_hit {k : Nat} {x : Int64} {l : am_L} {g : Value → Option am_C} : am_ldl ((k, .long x) :: l) k g = g (.long x) := by simp [am_ldl, am_lk]
theorem am_ldl_miss {i k : Nat} {v : Value} {l : am_L} {g : Value → Option am_C} (hi : i ≠ k) : am_ldl ((i, v) :: l) k g = am_ldl l k g := by simp [am_ldl, am_lk, hi]
theorem am_lda_hit {k : Nat} {x : Nat} {l : am_L} {g : Value → Option am_C} : am_lda ((k, .ref x) :: l) k g = g (.ref x) := by simp [am_lda, am_lk]
theorem am_lda_hitN {k : Nat} {l : am_L} {g : Value → Option am_C} : am_lda ((k, .null) :: l) k g = g .null := by simp [am_lda, am_lk]
theorem am_lda_miss {i k : Nat} {v : Value} {l : am_L} {g : Value → Option am_C} (hi : i ≠ k) : am_lda ((i, v) :: l) k g = am_lda l k g := by simp [am_lda, am_lk, hi]
def am_inc2 (l0 l : am_L) (k : Nat) (n : Int) (g : am_L → Option am_C) : Option am_C := match am_lk l k with
  | some (.int x) => g (am_s1 l0 k (.int (x + Int32.ofInt n)))
  | _ => none
theorem am_inc_eq {k : Nat} {n : Int} {l : am_L} {g : am_L → Option am_C} : am_inc l k n g = am_inc2 l l k n g := rfl
theorem am_inc_hit {k : Nat} {n : Int} {x : Int32} {l0 l : am_L} {g : am_L → Option am_C} : am_inc2 l0 ((k, .int x) :: l) k n g = g (am_s1 l0 k (.int (x + Int32.ofInt n))) := by simp [am_inc2, am_lk]
theorem am_inc_miss {i k : Nat} {n : Int} {v : Value} {l0 l : am_L} {g : am_L → Option am_C} (hi : i ≠ k) : am_inc2 l0 ((i, v) :: l) k n g = am_inc2 l0 l k n g := by simp [am_inc2, am_lk, hi]
def am_fl (l : am_L) (k : Nat) : am_L := l.filter (fun q => !(q.1 == k) && !(q.1 + 1 == k && q.2.category == 2))
def am_fl2 (l : am_L) (k : Nat) : am_L := l.filter (fun q => !(q.1 == k) && (!(q.1 == k + 1) && !(q.1 + 1 == k && q.2.category == 2)))
theorem am_s1_eq {l : am_L} {k : Nat} {v : Value} : am_s1 l k v = (k, v) :: am_fl l k := rfl
theorem am_s2_eq {l : am_L} {k : Nat} {v : Value} : am_s2 l k v = (k, v) :: am_fl2 l k := rfl
theorem am_fl_nil {k : Nat} : am_fl [] k = [] := rfl
theorem am_fl2_nil {k : Nat} : am_fl2 [] k = [] := rfl
theorem am_fl_hit {k : Nat} {v : Value} {l : am_L} : am_fl ((k, v) :: l) k = am_fl l k := by simp [am_fl]
theorem am_fl_int {i k : Nat} {x : Int32} {l : am_L} (hi : i ≠ k) : am_fl ((i, .int x) :: l) k = (i, .int x) :: am_fl l k := by simp [am_fl, hi, Value.category]
theorem am_fl_ref {i k : Nat} {x : Nat} {l : am_L} (hi : i ≠ k) : am_fl ((i, .ref x) :: l) k = (i, .ref x) :: am_fl l k := by simp [am_fl, hi, Value.category]
theorem am_fl_null {i k : Nat} {l : am_L} (hi : i ≠ k) : am_fl ((i, .null) :: l) k = (i, .null) :: am_fl l k := by simp [am_fl, hi, Value.category]
theorem am_fl_long {i k : Nat} {x : Int64} {l : am_L} (hi : i ≠ k) (hj : i + 1 ≠ k) : am_fl ((i, .long x) :: l) k = (i, .long x) :: am_fl l k := by simp [am_fl, hi, hj, Value.category]
theorem am_fl_longx {i k : Nat} {x : Int64} {l : am_L} (hj : i + 1 = k) : am_fl ((i, .long x) :: l) k = am_fl l k := by simp [am_fl, hj, Value.category]
theorem am_fl2_hit {k : Nat} {v : Value} {l : am_L} : am_fl2 ((k, v) :: l) k = am_fl2 l k := by simp [am_fl2]
theorem am_fl2_hit1 {i k : Nat} {v : Value} {l : am_L} (hi : i = k + 1) : am_fl2 ((i, v) :: l) k = am_fl2 l k := by simp [am_fl2, hi]
theorem am_fl2_int {i k : Nat} {x : Int32} {l : am_L} (hi : i ≠ k) (hj : i ≠ k + 1) : am_fl2 ((i, .int x) :: l) k = (i, .int x) :: am_fl2 l k := by simp [am_fl2, hi, hj, Value.category]
theorem am_fl2_ref {i k : Nat} {x : Nat} {l : am_L} (hi : i ≠ k) (hj : i ≠ k + 1) : am_fl2 ((i, .ref x) :: l) k = (i, .ref x) :: am_fl2 l k := by simp [am_fl2, hi, hj, Value.category]
theorem am_fl2_long {i k : Nat} {x : Int64} {l : am_L} (hi : i ≠ k) (hj : i ≠ k + 1) (hm : i + 1 ≠ k) : am_fl2 ((i, .long x) :: l) k = (i, .long x) :: am_fl2 l k := by simp [am_fl2, hi, hj, hm, Value.category]
theorem am_ob_hit {ci : Nat} {fs : List Value} {g : List Value → Option am_C} : am_ob (.inr (ci, fs)) ci g = g fs := by simp [am_ob]
theorem am_fd_0 {v : Value} {l : List Value} {g : Value → Option am_C} : am_fd (v :: l) 0 g = g v := rfl
theorem am_fd_s {k : Nat} {v : Value} {l : List Value} {g : Value → Option am_C} : am_fd (v :: l) (k + 1) g = am_fd l k g := rfl
theorem am_ai_hit {n : Nat} {f : Nat → Int32} {i : Int32} {t : Nat} {g : Nat → (Nat → Int32) → Option am_C} : am_ai (.inl (t, n, .inl f)) t i g = if i < 0 ∨ n ≤ i.toNatClampNeg then none else g n f := by simp [am_ai]
theorem am_ab_2 {n : Nat} {f : Nat → Int32} {i : Int32} {g : Nat → Nat → (Nat → Int32) → Option am_C} : am_ab (.inl (2, n, .inl f)) i g = if i < 0 ∨ n ≤ i.toNatClampNeg then none else g 2 n f := by simp [am_ab]
theorem am_ab_3 {n : Nat} {f : Nat → Int32} {i : Int32} {g : Nat → Nat → (Nat → Int32) → Option am_C} : am_ab (.inl (3, n, .inl f)) i g = if i < 0 ∨ n ≤ i.toNatClampNeg then none else g 3 n f := by simp [am_ab]
theorem am_al_hit {n : Nat} {f : Nat → Int64} {i : Int32} {t : Nat} {g : Nat → (Nat → Int64) → Option am_C} : am_al (.inl (t, n, .inr (.inl f))) t i g = if i < 0 ∨ n ≤ i.toNatClampNeg then none else g n f := by simp [am_al]
theorem am_aq_4 {n : Nat} {f : Nat → Option Nat} {i : Int32} {g : Nat → (Nat → Option Nat) → Option am_C} : am_aq (.inl (4, n, .inr (.inr (.inr (.inr f))))) i g = if i < 0 ∨ n ≤ i.toNatClampNeg then none else g n f := by simp [am_aq]
theorem am_al0_hit {t n : Nat} {f : (Nat → Int32) ⊕ (Nat → Int64) ⊕ (Nat → UInt32) ⊕ (Nat → UInt64) ⊕ (Nat → Option Nat)} {g : Nat → Option am_C} : am_al0 (.inl (t, n, f)) g = g n := rfl
theorem am_up_hit {α : Type} {f : Nat → α} {k : Nat} {v : α} : va_up f k v k = v := if_pos rfl
theorem am_up_miss {α : Type} {f : Nat → α} {i k : Nat} {v : α} (hi : i ≠ k) : va_up f k v i = f i := if_neg hi
theorem am_put_1 {h : am_H} {a : Nat} {E : am_E} : (am_put h a E).1 = va_up h.1 a E := rfl
theorem am_put_2 {h : am_H} {a : Nat} {E : am_E} : (am_put h a E).2 = h.2 := rfl
end SX
end
section
theorem i_vc : Claimed_1_1 ∧ Claimed_1_2 := sorry
end
