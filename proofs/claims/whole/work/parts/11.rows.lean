/-! Rows for 'simp only': a STEP of the numbered machine at each instruction. -/
section SX
variable {df : Nat → List Value} {MT : List am_M} {dp : Nat} {pc len a b c d j : Nat} {q : Nat × List Nat} {lv : am_L} {st r : List Value} {h : am_H} {P : am_C → Prop} {Q : Option Value → am_H → Prop}
theorem am_o_some (Y : am_C) (P : am_C → Prop) : am_o (some Y) P = P Y := Eq.trans rfl rfl
theorem am_o_none (P : am_C → Prop) : am_o none P = False := Eq.trans rfl rfl
theorem am_o_ite {p : Prop} [Decidable p] (x y : Option am_C) (P : am_C → Prop) : am_o (if p then x else y) P = if p then am_o x P else am_o y P := by
  split <;> rfl
theorem am_o_bad {p : Prop} [Decidable p] (y : Option am_C) (P : am_C → Prop) : am_o (if p then none else y) P = (¬ p ∧ am_o y P) := by
  split
  · rename_i hp
    exact propext ⟨fun q => absurd q id, fun q => q.1 hp⟩
  · rename_i hp
    exact propext ⟨fun q => ⟨hp, q⟩, fun q => q.2⟩
theorem am_o_good {p : Prop} [Decidable p] (y : Option am_C) (P : am_C → Prop) : am_o (if p then y else none) P = (p ∧ am_o y P) := by
  split
  · rename_i hp
    exact propext ⟨fun q => ⟨hp, q⟩, fun q => q.2⟩
  · rename_i hp
    exact propext ⟨fun q => absurd q id, fun q => hp q.1⟩
theorem sx_iconst {n : Int} : am_S df MT dp (pc, len, .iconst n, a, b, c, d, q) j lv st h P Q = P (j + 1, lv, .int (Int32.ofInt n) :: st, h) := Eq.trans rfl rfl
theorem sx_bipush {n : Int} : am_S df MT dp (pc, len, .bipush n, a, b, c, d, q) j lv st h P Q = P (j + 1, lv, .int (Int8.ofInt n).toInt32 :: st, h) := Eq.trans rfl rfl
theorem sx_sipush {n : Int} : am_S df MT dp (pc, len, .sipush n, a, b, c, d, q) j lv st h P Q = P (j + 1, lv, .int (Int16.ofInt n).toInt32 :: st, h) := Eq.trans rfl rfl
theorem sx_lconst {n : Fin 2} : am_S df MT dp (pc, len, .lconst n, a, b, c, d, q) j lv st h P Q = P (j + 1, lv, .long (Int64.ofNat a) :: st, h) := Eq.trans rfl rfl
theorem sx_ldc {n : Nat} : am_S df MT dp (pc, len, .ldc n, a, b, c, d, q) j lv st h P Q = P (j + 1, lv, .int (Int32.ofNat a) :: st, h) := Eq.trans rfl rfl
theorem sx_ldc_w {n : Nat} : am_S df MT dp (pc, len, .ldc_w n, a, b, c, d, q) j lv st h P Q = P (j + 1, lv, .int (Int32.ofNat a) :: st, h) := Eq.trans rfl rfl
theorem sx_ldc2_w {n : Nat} : am_S df MT dp (pc, len, .ldc2_w n, a, b, c, d, q) j lv st h P Q = P (j + 1, lv, .long (Int64.ofNat a) :: st, h) := Eq.trans rfl rfl
theorem sx_aconst_null : am_S df MT dp (pc, len, .aconst_null, a, b, c, d, q) j lv st h P Q = P (j + 1, lv, .null :: st, h) := Eq.trans rfl rfl
theorem sx_iload_n {n : Fin 4} : am_S df MT dp (pc, len, .iload_n n, a, b, c, d, q) j lv st h P Q = am_o (am_ldi lv a (fun v => some (j + 1, lv, v :: st, h))) P := Eq.trans rfl rfl
theorem sx_iload {n : Nat} : am_S df MT dp (pc, len, .iload n, a, b, c, d, q) j lv st h P Q = am_o (am_ldi lv a (fun v => some (j + 1, lv, v :: st, h))) P := Eq.trans rfl rfl
theorem sx_lload_n {n : Fin 4} : am_S df MT dp (pc, len, .lload_n n, a, b, c, d, q) j lv st h P Q = am_o (am_ldl lv a (fun v => some (j + 1, lv, v :: st, h))) P := Eq.trans rfl rfl
theorem sx_lload {n : Nat} : am_S df MT dp (pc, len, .lload n, a, b, c, d, q) j lv st h P Q = am_o (am_ldl lv a (fun v => some (j + 1, lv, v :: st, h))) P := Eq.trans rfl rfl
theorem sx_aload_n {n : Fin 4} : am_S df MT dp (pc, len, .aload_n n, a, b, c, d, q) j lv st h P Q = am_o (am_lda lv a (fun v => some (j + 1, lv, v :: st, h))) P := Eq.trans rfl rfl
theorem sx_aload {n : Nat} : am_S df MT dp (pc, len, .aload n, a, b, c, d, q) j lv st h P Q = am_o (am_lda lv a (fun v => some (j + 1, lv, v :: st, h))) P := Eq.trans rfl rfl
theorem sx_istore_n {n : Fin 4} {x : Int32} : am_S df MT dp (pc, len, .istore_n n, a, b, c, d, q) j lv (.int x :: r) h P Q = P (j + 1, am_s1 lv a (.int x), r, h) := Eq.trans rfl rfl
theorem sx_istore {n : Nat} {x : Int32} : am_S df MT dp (pc, len, .istore n, a, b, c, d, q) j lv (.int x :: r) h P Q = P (j + 1, am_s1 lv a (.int x), r, h) := Eq.trans rfl rfl
theorem sx_lstore_n {n : Fin 4} {x : Int64} : am_S df MT dp (pc, len, .lstore_n n, a, b, c, d, q) j lv (.long x :: r) h P Q = P (j + 1, am_s2 lv a (.long x), r, h) := Eq.trans rfl rfl
theorem sx_lstore {n : Nat} {x : Int64} : am_S df MT dp (pc, len, .lstore n, a, b, c, d, q) j lv (.long x :: r) h P Q = P (j + 1, am_s2 lv a (.long x), r, h) := Eq.trans rfl rfl
theorem sx_astore_n {n : Fin 4} {x : Nat} : am_S df MT dp (pc, len, .astore_n n, a, b, c, d, q) j lv (.ref x :: r) h P Q = P (j + 1, am_s1 lv a (.ref x), r, h) := Eq.trans rfl rfl
theorem sx_astore {n : Nat} {x : Nat} : am_S df MT dp (pc, len, .astore n, a, b, c, d, q) j lv (.ref x :: r) h P Q = P (j + 1, am_s1 lv a (.ref x), r, h) := Eq.trans rfl rfl
theorem sx_iinc {k : Nat} {n : Int} : am_S df MT dp (pc, len, .iinc k n, a, b, c, d, q) j lv st h P Q = am_o (am_inc lv k n (fun l => some (j + 1, l, st, h))) P := Eq.trans rfl rfl
theorem sx_iadd {x y : Int32} : am_S df MT dp (pc, len, .iadd, a, b, c, d, q) j lv (.int y :: .int x :: r) h P Q = P (j + 1, lv, .int (x + y) :: r, h) := Eq.trans rfl rfl
theorem sx_isub {x y : Int32} : am_S df MT dp (pc, len, .isub, a, b, c, d, q) j lv (.int y :: .int x :: r) h P Q = P (j + 1, lv, .int (x - y) :: r, h) := Eq.trans rfl rfl
theorem sx_imul {x y : Int32} : am_S df MT dp (pc, len, .imul, a, b, c, d, q) j lv (.int y :: .int x :: r) h P Q = P (j + 1, lv, .int (x * y) :: r, h) := Eq.trans rfl rfl
theorem sx_iand {x y : Int32} : am_S df MT dp (pc, len, .iand, a, b, c, d, q) j lv (.int y :: .int x :: r) h P Q = P (j + 1, lv, .int (x &&& y) :: r, h) := Eq.trans rfl rfl
theorem sx_ior {x y : Int32} : am_S df MT dp (pc, len, .ior, a, b, c, d, q) j lv (.int y :: .int x :: r) h P Q = P (j + 1, lv, .int (x ||| y) :: r, h) := Eq.trans rfl rfl
theorem sx_ixor {x y : Int32} : am_S df MT dp (pc, len, .ixor, a, b, c, d, q) j lv (.int y :: .int x :: r) h P Q = P (j + 1, lv, .int (x ^^^ y) :: r, h) := Eq.trans rfl rfl
theorem sx_ishl {x y : Int32} : am_S df MT dp (pc, len, .ishl, a, b, c, d, q) j lv (.int y :: .int x :: r) h P Q = P (j + 1, lv, .int (x <<< (y &&& 31)) :: r, h) := Eq.trans rfl rfl
theorem sx_ishr {x y : Int32} : am_S df MT dp (pc, len, .ishr, a, b, c, d, q) j lv (.int y :: .int x :: r) h P Q = P (j + 1, lv, .int (x >>> (y &&& 31)) :: r, h) := Eq.trans rfl rfl
theorem sx_iushr {x y : Int32} : am_S df MT dp (pc, len, .iushr, a, b, c, d, q) j lv (.int y :: .int x :: r) h P Q = P (j + 1, lv, .int ((x.toUInt32 >>> (y.toUInt32 &&& Int32.toUInt32 31)).toInt32) :: r, h) := Eq.trans rfl rfl
theorem sx_idiv {x y : Int32} : am_S df MT dp (pc, len, .idiv, a, b, c, d, q) j lv (.int y :: .int x :: r) h P Q = am_o (if y = 0 then none else some (j + 1, lv, .int (x / y) :: r, h)) P := Eq.trans rfl rfl
theorem sx_irem {x y : Int32} : am_S df MT dp (pc, len, .irem, a, b, c, d, q) j lv (.int y :: .int x :: r) h P Q = am_o (if y = 0 then none else some (j + 1, lv, .int (x - x / y * y) :: r, h)) P := Eq.trans rfl rfl
theorem sx_ineg {x : Int32} : am_S df MT dp (pc, len, .ineg, a, b, c, d, q) j lv (.int x :: r) h P Q = P (j + 1, lv, .int (-x) :: r, h) := Eq.trans rfl rfl
theorem sx_ladd {x y : Int64} : am_S df MT dp (pc, len, .ladd, a, b, c, d, q) j lv (.long y :: .long x :: r) h P Q = P (j + 1, lv, .long (x + y) :: r, h) := Eq.trans rfl rfl
theorem sx_lsub {x y : Int64} : am_S df MT dp (pc, len, .lsub, a, b, c, d, q) j lv (.long y :: .long x :: r) h P Q = P (j + 1, lv, .long (x - y) :: r, h) := Eq.trans rfl rfl
theorem sx_lmul {x y : Int64} : am_S df MT dp (pc, len, .lmul, a, b, c, d, q) j lv (.long y :: .long x :: r) h P Q = P (j + 1, lv, .long (x * y) :: r, h) := Eq.trans rfl rfl
theorem sx_land {x y : Int64} : am_S df MT dp (pc, len, .land, a, b, c, d, q) j lv (.long y :: .long x :: r) h P Q = P (j + 1, lv, .long (x &&& y) :: r, h) := Eq.trans rfl rfl
theorem sx_lor {x y : Int64} : am_S df MT dp (pc, len, .lor, a, b, c, d, q) j lv (.long y :: .long x :: r) h P Q = P (j + 1, lv, .long (x ||| y) :: r, h) := Eq.trans rfl rfl
theorem sx_lxor {x y : Int64} : am_S df MT dp (pc, len, .lxor, a, b, c, d, q) j lv (.long y :: .long x :: r) h P Q = P (j + 1, lv, .long (x ^^^ y) :: r, h) := Eq.trans rfl rfl
theorem sx_lshl {x : Int64} {y : Int32} : am_S df MT dp (pc, len, .lshl, a, b, c, d, q) j lv (.int y :: .long x :: r) h P Q = P (j + 1, lv, .long (x <<< (y.toInt64 &&& 63)) :: r, h) := Eq.trans rfl rfl
theorem sx_lshr {x : Int64} {y : Int32} : am_S df MT dp (pc, len, .lshr, a, b, c, d, q) j lv (.int y :: .long x :: r) h P Q = P (j + 1, lv, .long (x >>> (y.toInt64 &&& 63)) :: r, h) := Eq.trans rfl rfl
theorem sx_lushr {x : Int64} {y : Int32} : am_S df MT dp (pc, len, .lushr, a, b, c, d, q) j lv (.int y :: .long x :: r) h P Q = P (j + 1, lv, .long ((x.toUInt64 >>> (y.toInt64.toUInt64 &&& Int64.toUInt64 63)).toInt64) :: r, h) := Eq.trans rfl rfl
theorem sx_lcmp {x y : Int64} : am_S df MT dp (pc, len, .lcmp, a, b, c, d, q) j lv (.long y :: .long x :: r) h P Q = P (j + 1, lv, .int (lg_cmp x y) :: r, h) := Eq.trans rfl rfl
theorem sx_i2l {x : Int32} : am_S df MT dp (pc, len, .i2l, a, b, c, d, q) j lv (.int x :: r) h P Q = P (j + 1, lv, .long x.toInt64 :: r, h) := Eq.trans rfl rfl
theorem sx_l2i {x : Int64} : am_S df MT dp (pc, len, .l2i, a, b, c, d, q) j lv (.long x :: r) h P Q = P (j + 1, lv, .int x.toInt32 :: r, h) := Eq.trans rfl rfl
theorem sx_i2b {x : Int32} : am_S df MT dp (pc, len, .i2b, a, b, c, d, q) j lv (.int x :: r) h P Q = P (j + 1, lv, .int x.toInt8.toInt32 :: r, h) := Eq.trans rfl rfl
theorem sx_dup_r {x : Nat} : am_S df MT dp (pc, len, .dup, a, b, c, d, q) j lv (.ref x :: r) h P Q = P (j + 1, lv, .ref x :: .ref x :: r, h) := Eq.trans rfl rfl
theorem sx_dup_i {x : Int32} : am_S df MT dp (pc, len, .dup, a, b, c, d, q) j lv (.int x :: r) h P Q = P (j + 1, lv, .int x :: .int x :: r, h) := Eq.trans rfl rfl
theorem sx_pop_r {x : Nat} : am_S df MT dp (pc, len, .pop, a, b, c, d, q) j lv (.ref x :: r) h P Q = P (j + 1, lv, r, h) := Eq.trans rfl rfl
theorem sx_pop_i {x : Int32} : am_S df MT dp (pc, len, .pop, a, b, c, d, q) j lv (.int x :: r) h P Q = P (j + 1, lv, r, h) := Eq.trans rfl rfl
theorem sx_dup2_ir {x : Int32} {y : Nat} : am_S df MT dp (pc, len, .dup2, a, b, c, d, q) j lv (.int x :: .ref y :: r) h P Q = P (j + 1, lv, .int x :: .ref y :: .int x :: .ref y :: r, h) := Eq.trans rfl rfl
theorem sx_dup_x1_ir {x : Int32} {y : Nat} : am_S df MT dp (pc, len, .dup_x1, a, b, c, d, q) j lv (.int x :: .ref y :: r) h P Q = P (j + 1, lv, .int x :: .ref y :: .int x :: r, h) := Eq.trans rfl rfl
theorem sx_ifCond_eq {x : Int32} {o : Int} : am_S df MT dp (pc, len, .ifCond .eq o, a, b, c, d, q) j lv (.int x :: r) h P Q = if x = 0 then P (a, lv, r, h) else P (j + 1, lv, r, h) := by
  show am_o (if x = 0 then _ else _) P = _
  rw [am_o_ite]
  rfl
theorem sx_if_icmp_eq {x y : Int32} {o : Int} : am_S df MT dp (pc, len, .if_icmp .eq o, a, b, c, d, q) j lv (.int y :: .int x :: r) h P Q = if x = y then P (a, lv, r, h) else P (j + 1, lv, r, h) := by
  show am_o (if x = y then _ else _) P = _
  rw [am_o_ite]
  rfl
theorem sx_ifCond_ne {x : Int32} {o : Int} : am_S df MT dp (pc, len, .ifCond .ne o, a, b, c, d, q) j lv (.int x :: r) h P Q = if x = 0 then P (j + 1, lv, r, h) else P (a, lv, r, h) := by
  show am_o (if x = 0 then _ else _) P = _
  rw [am_o_ite]
  rfl
theorem sx_if_icmp_ne {x y : Int32} {o : Int} : am_S df MT dp (pc, len, .if_icmp .ne o, a, b, c, d, q) j lv (.int y :: .int x :: r) h P Q = if x = y then P (j + 1, lv, r, h) else P (a, lv, r, h) := by
  show am_o (if x = y then _ else _) P = _
  rw [am_o_ite]
  rfl
theorem sx_ifCond_lt {x : Int32} {o : Int} : am_S df MT dp (pc, len, .ifCond .lt o, a, b, c, d, q) j lv (.int x :: r) h P Q = if x < 0 then P (a, lv, r, h) else P (j + 1, lv, r, h) := by
  show am_o (if x < 0 then _ else _) P = _
  rw [am_o_ite]
  rfl
theorem sx_if_icmp_lt {x y : Int32} {o : Int} : am_S df MT dp (pc, len, .if_icmp .lt o, a, b, c, d, q) j lv (.int y :: .int x :: r) h P Q = if x < y then P (a, lv, r, h) else P (j + 1, lv, r, h) := by
  show am_o (if x < y then _ else _) P = _
  rw [am_o_ite]
  rfl
theorem sx_ifCond_ge {x : Int32} {o : Int} : am_S df MT dp (pc, len, .ifCond .ge o, a, b, c, d, q) j lv (.int x :: r) h P Q = if 0 ≤ x then P (a, lv, r, h) else P (j + 1, lv, r, h) := by
  show am_o (if 0 ≤ x then _ else _) P = _
  rw [am_o_ite]
  rfl
theorem sx_if_icmp_ge {x y : Int32} {o : Int} : am_S df MT dp (pc, len, .if_icmp .ge o, a, b, c, d, q) j lv (.int y :: .int x :: r) h P Q = if y ≤ x then P (a, lv, r, h) else P (j + 1, lv, r, h) := by
  show am_o (if y ≤ x then _ else _) P = _
  rw [am_o_ite]
  rfl
theorem sx_ifCond_gt {x : Int32} {o : Int} : am_S df MT dp (pc, len, .ifCond .gt o, a, b, c, d, q) j lv (.int x :: r) h P Q = if 0 < x then P (a, lv, r, h) else P (j + 1, lv, r, h) := by
  show am_o (if 0 < x then _ else _) P = _
  rw [am_o_ite]
  rfl
theorem sx_if_icmp_gt {x y : Int32} {o : Int} : am_S df MT dp (pc, len, .if_icmp .gt o, a, b, c, d, q) j lv (.int y :: .int x :: r) h P Q = if y < x then P (a, lv, r, h) else P (j + 1, lv, r, h) := by
  show am_o (if y < x then _ else _) P = _
  rw [am_o_ite]
  rfl
theorem sx_ifCond_le {x : Int32} {o : Int} : am_S df MT dp (pc, len, .ifCond .le o, a, b, c, d, q) j lv (.int x :: r) h P Q = if x ≤ 0 then P (a, lv, r, h) else P (j + 1, lv, r, h) := by
  show am_o (if x ≤ 0 then _ else _) P = _
  rw [am_o_ite]
  rfl
theorem sx_if_icmp_le {x y : Int32} {o : Int} : am_S df MT dp (pc, len, .if_icmp .le o, a, b, c, d, q) j lv (.int y :: .int x :: r) h P Q = if x ≤ y then P (a, lv, r, h) else P (j + 1, lv, r, h) := by
  show am_o (if x ≤ y then _ else _) P = _
  rw [am_o_ite]
  rfl
theorem sx_goto {o : Int} : am_S df MT dp (pc, len, .goto o, a, b, c, d, q) j lv st h P Q = P (a, lv, st, h) := Eq.trans rfl rfl
theorem sx_switch {dflt lo hi : Int} {offs : Array Int} {qq : Nat} {tg : List Nat} {x : Int32} : am_S df MT dp (pc, len, .tableswitch dflt lo hi offs, a, b, c, d, qq, tg) j lv (.int x :: r) h P Q = am_o (if x.toInt < lo ∨ hi < x.toInt then some (a, lv, r, h) else am_tg tg (x.toInt - lo).toNat (fun t => some (t, lv, r, h))) P := Eq.trans rfl rfl
theorem sx_ifnull_n {o : Int} : am_S df MT dp (pc, len, .ifnull o, a, b, c, d, q) j lv (.null :: r) h P Q = P (a, lv, r, h) := Eq.trans rfl rfl
theorem sx_ifnull_r {o : Int} {x : Nat} : am_S df MT dp (pc, len, .ifnull o, a, b, c, d, q) j lv (.ref x :: r) h P Q = P (j + 1, lv, r, h) := Eq.trans rfl rfl
theorem sx_ifnonnull_n {o : Int} : am_S df MT dp (pc, len, .ifnonnull o, a, b, c, d, q) j lv (.null :: r) h P Q = P (j + 1, lv, r, h) := Eq.trans rfl rfl
theorem sx_ifnonnull_r {o : Int} {x : Nat} : am_S df MT dp (pc, len, .ifnonnull o, a, b, c, d, q) j lv (.ref x :: r) h P Q = P (a, lv, r, h) := Eq.trans rfl rfl
theorem sx_getfield {n x : Nat} : am_S df MT dp (pc, len, .getfield n, a, b, c, d, q) j lv (.ref x :: r) h P Q = am_o (am_ob (h.1 x) a (fun fs => am_fd fs b (fun v => some (j + 1, lv, v :: r, h)))) P := Eq.trans rfl rfl
theorem sx_putfield {n x : Nat} {v : Value} : am_S df MT dp (pc, len, .putfield n, a, b, c, d, q) j lv (v :: .ref x :: r) h P Q = am_o (am_ob (h.1 x) a (fun fs => if b < fs.length ∧ am_ft d v = true then some (j + 1, lv, r, am_put h x (.inr (a, fs.set b v))) else none)) P := Eq.trans rfl rfl
theorem sx_iaload {i : Int32} {x : Nat} : am_S df MT dp (pc, len, .iaload, a, b, c, d, q) j lv (.int i :: .ref x :: r) h P Q = am_o (am_ai (h.1 x) 0 i (fun _ f => some (j + 1, lv, .int (f i.toNatClampNeg) :: r, h))) P := Eq.trans rfl rfl
theorem sx_baload {i : Int32} {x : Nat} : am_S df MT dp (pc, len, .baload, a, b, c, d, q) j lv (.int i :: .ref x :: r) h P Q = am_o (am_ab (h.1 x) i (fun _ _ f => some (j + 1, lv, .int (f i.toNatClampNeg) :: r, h))) P := Eq.trans rfl rfl
theorem sx_laload {i : Int32} {x : Nat} : am_S df MT dp (pc, len, .laload, a, b, c, d, q) j lv (.int i :: .ref x :: r) h P Q = am_o (am_al (h.1 x) 1 i (fun _ f => some (j + 1, lv, .long (f i.toNatClampNeg) :: r, h))) P := Eq.trans rfl rfl
theorem sx_aaload {i : Int32} {x : Nat} : am_S df MT dp (pc, len, .aaload, a, b, c, d, q) j lv (.int i :: .ref x :: r) h P Q = am_o (am_aq (h.1 x) i (fun _ f => some (j + 1, lv, va_rf (f i.toNatClampNeg) :: r, h))) P := Eq.trans rfl rfl
theorem sx_iastore {i v : Int32} {x : Nat} : am_S df MT dp (pc, len, .iastore, a, b, c, d, q) j lv (.int v :: .int i :: .ref x :: r) h P Q = am_o (am_ai (h.1 x) 0 i (fun n f => if x = 0 then none else some (j + 1, lv, r, am_put h x (.inl (0, n, .inl (upd f i.toNatClampNeg v)))))) P := Eq.trans rfl rfl
theorem sx_bastore {i v : Int32} {x : Nat} : am_S df MT dp (pc, len, .bastore, a, b, c, d, q) j lv (.int v :: .int i :: .ref x :: r) h P Q = am_o (am_ab (h.1 x) i (fun u n f => if x = 0 then none else some (j + 1, lv, r, am_put h x (.inl (u, n, .inl (upd f i.toNatClampNeg (vp_nar (if u = 2 then .byte else .boolean) v))))))) P := Eq.trans rfl rfl
theorem sx_lastore {i : Int32} {v : Int64} {x : Nat} : am_S df MT dp (pc, len, .lastore, a, b, c, d, q) j lv (.long v :: .int i :: .ref x :: r) h P Q = am_o (am_al (h.1 x) 1 i (fun n f => if x = 0 then none else some (j + 1, lv, r, am_put h x (.inl (1, n, .inr (.inl (vp_updL f i.toNatClampNeg v))))))) P := Eq.trans rfl rfl
theorem sx_arraylength {x : Nat} : am_S df MT dp (pc, len, .arraylength, a, b, c, d, q) j lv (.ref x :: r) h P Q = am_o (am_al0 (h.1 x) (fun n => some (j + 1, lv, .int (Int32.ofNat n) :: r, h))) P := Eq.trans rfl rfl
theorem sx_newarray {t : ArrayType} {n : Int32} : am_S df MT dp (pc, len, .newarray t, a, b, c, d, q) j lv (.int n :: r) h P Q = am_o (if n < 0 ∨ 1000000 < n.toNatClampNeg then none else some (j + 1, lv, .ref h.2.1 :: r, am_mk h (.inl (a, n.toNatClampNeg, am_zero a)) n.toNatClampNeg)) P := Eq.trans rfl rfl
theorem sx_multi {u w : Nat} {n k : Int32} : am_S df MT dp (pc, len, .multianewarray u w, a, b, c, d, q) j lv (.int k :: .int n :: r) h P Q = am_o (if n < 0 ∨ 1000 < n.toNatClampNeg ∨ k < 0 ∨ 1000000 < k.toNatClampNeg then none else some (j + 1, lv, .ref h.2.1 :: r, am_mk2 h a b n.toNatClampNeg k.toNatClampNeg (am_zero b))) P := Eq.trans rfl rfl
theorem sx_new {n : Nat} : am_S df MT dp (pc, len, .new n, a, b, c, d, q) j lv st h P Q = P (j + 1, lv, .ref h.2.1 :: st, am_mk h (.inr (a, df a)) (df a).length) := Eq.trans rfl rfl
theorem sx_objInit {n x : Nat} : am_S df MT dp (pc, len, .invokespecial n, 100000, b, c, d, q) j lv (.ref x :: r) h P Q = am_o (if (r.map fun v => v.category).sum ≤ 8 then some (j + 1, lv, r, h) else none) P := by
  have hk : am_kd (pc, len, .invokespecial n, 100000, b, c, d, q) = 0 := by
    show (if (100000 : Nat) = 100000 then 0 else 4) = 0
    rw [if_pos rfl]
  unfold am_S
  rw [hk]
  rfl
theorem sx_init {n : Nat} (ha : a ≠ 100000) : am_S df MT dp (pc, len, .invokespecial n, a, b, c, d, q) j lv st h P Q = (am_can (pc, len, .invokespecial n, a, b, c, d, q) st h = true ∧ am_Ct df MT dp a (st.take b).reverse h (fun v h2 => P (j + 1, lv, v.toList ++ st.drop b, h2))) := by
  have hk : am_kd (pc, len, .invokespecial n, a, b, c, d, q) = 4 := by
    show (if a = 100000 then 0 else 4) = 4
    rw [if_neg ha]
  unfold am_S
  rw [hk]
  rfl
theorem sx_static {n : Nat} : am_S df MT dp (pc, len, .invokestatic n, a, b, c, d, q) j lv st h P Q = (am_can (pc, len, .invokestatic n, a, b, c, d, q) st h = true ∧ am_Ct df MT dp a (st.take b).reverse h (fun v h2 => P (j + 1, lv, v.toList ++ st.drop b, h2))) := Eq.trans rfl rfl
theorem sx_virtual {n : Nat} : am_S df MT dp (pc, len, .invokevirtual n, a, b, c, d, q) j lv st h P Q = (am_can (pc, len, .invokevirtual n, a, b, c, d, q) st h = true ∧ am_Ct df MT dp a (st.take b).reverse h (fun v h2 => P (j + 1, lv, v.toList ++ st.drop b, h2))) := Eq.trans rfl rfl
theorem sx_ireturn0 {x : Int32} : am_S df MT dp (pc, len, (.ireturn), a, b, c, d, q) j lv [.int x] h P Q = am_q1 (if am_ft d (.int x) = true then some (some (.int x)) else none) (fun r => Q r h) := Eq.trans rfl rfl
theorem sx_lreturn {x : Int64} : am_S df MT dp (pc, len, (.lreturn), a, b, c, d, q) j lv [.long x] h P Q = Q (some (.long x)) h := Eq.trans rfl rfl
theorem sx_areturn {x : Nat} : am_S df MT dp (pc, len, (.areturn), a, b, c, d, q) j lv [.ref x] h P Q = Q (some (.ref x)) h := Eq.trans rfl rfl
theorem sx_areturn_n : am_S df MT dp (pc, len, (.areturn), a, b, c, d, q) j lv [.null] h P Q = Q (some .null) h := Eq.trans rfl rfl
theorem sx_return : am_S df MT dp (pc, len, (.return_), a, b, c, d, q) j lv [] h P Q = Q none h := Eq.trans rfl rfl
theorem sx_ireturn {x : Int32} : am_S df MT dp (pc, len, .ireturn, a, b, c, 0, q) j lv [.int x] h P Q = Q (some (.int x)) h := Eq.trans rfl rfl
theorem sx_zreturn {x : Int32} : am_S df MT dp (pc, len, .ireturn, a, b, c, 3, q) j lv [.int x] h P Q = ((x = 0 ∨ x = 1) ∧ Q (some (.int x)) h) := by
  show am_q1 (if (x == 0 || x == 1) = true then some (some (.int x)) else none) (fun r => Q r h) = _
  split
  · rename_i hp
    simp only [Bool.or_eq_true, beq_iff_eq] at hp
    exact propext ⟨fun q => ⟨hp, q⟩, fun q => q.2⟩
  · rename_i hp
    simp only [Bool.or_eq_true, beq_iff_eq] at hp
    exact propext ⟨fun q => absurd q id, fun q => hp q.1⟩
theorem am_ldi_hit {k : Nat} {x : Int32} {l : am_L} {g : Value → Option am_C} : am_ldi ((k, .int x) :: l) k g = g (.int x) := by simp [am_ldi, am_lk]
theorem am_ldi_miss {i k : Nat} {v : Value} {l : am_L} {g : Value → Option am_C} (hi : i ≠ k) : am_ldi ((i, v) :: l) k g = am_ldi l k g := by simp [am_ldi, am_lk, hi]
theorem am_ldl_hit {k : Nat} {x : Int64} {l : am_L} {g : Value → Option am_C} : am_ldl ((k, .long x) :: l) k g = g (.long x) := by simp [am_ldl, am_lk]
theorem am_ldl_miss {i k : Nat} {v : Value} {l : am_L} {g : Value → Option am_C} (hi : i ≠ k) : am_ldl ((i, v) :: l) k g = am_ldl l k g := by simp [am_ldl, am_lk, hi]
theorem am_lda_hit {k : Nat} {x : Nat} {l : am_L} {g : Value → Option am_C} : am_lda ((k, .ref x) :: l) k g = g (.ref x) := by simp [am_lda, am_lk]
theorem am_lda_hitN {k : Nat} {l : am_L} {g : Value → Option am_C} : am_lda ((k, .null) :: l) k g = g .null := by simp [am_lda, am_lk]
theorem am_lda_miss {i k : Nat} {v : Value} {l : am_L} {g : Value → Option am_C} (hi : i ≠ k) : am_lda ((i, v) :: l) k g = am_lda l k g := by simp [am_lda, am_lk, hi]
def am_inc2 (l0 l : am_L) (k : Nat) (n : Int) (g : am_L → Option am_C) : Option am_C := match am_lk l k with
  | some (.int x) => g (am_s1 l0 k (.int (x + Int32.ofInt n)))
  | _ => none
theorem am_inc_eq {k : Nat} {n : Int} {l : am_L} {g : am_L → Option am_C} : am_inc l k n g = am_inc2 l l k n g := Eq.trans rfl rfl
theorem am_inc_hit {k : Nat} {n : Int} {x : Int32} {l0 l : am_L} {g : am_L → Option am_C} : am_inc2 l0 ((k, .int x) :: l) k n g = g (am_s1 l0 k (.int (x + Int32.ofInt n))) := by simp [am_inc2, am_lk]
theorem am_inc_miss {i k : Nat} {n : Int} {v : Value} {l0 l : am_L} {g : am_L → Option am_C} (hi : i ≠ k) : am_inc2 l0 ((i, v) :: l) k n g = am_inc2 l0 l k n g := by simp [am_inc2, am_lk, hi]
def am_fl (l : am_L) (k : Nat) : am_L := l.filter (fun q => !(q.1 == k) && !(q.1 + 1 == k && q.2.category == 2))
def am_fl2 (l : am_L) (k : Nat) : am_L := l.filter (fun q => !(q.1 == k) && (!(q.1 == k + 1) && !(q.1 + 1 == k && q.2.category == 2)))
theorem am_s1_eq {l : am_L} {k : Nat} {v : Value} : am_s1 l k v = (k, v) :: am_fl l k := Eq.trans rfl rfl
theorem am_s2_eq {l : am_L} {k : Nat} {v : Value} : am_s2 l k v = (k, v) :: am_fl2 l k := Eq.trans rfl rfl
theorem am_fl_nil {k : Nat} : am_fl [] k = [] := Eq.trans rfl rfl
theorem am_fl2_nil {k : Nat} : am_fl2 [] k = [] := Eq.trans rfl rfl
theorem am_fl_hit {k : Nat} {v : Value} {l : am_L} : am_fl ((k, v) :: l) k = am_fl l k := by simp [am_fl]
theorem am_fl_int {i k : Nat} {x : Int32} {l : am_L} (hi : i ≠ k) : am_fl ((i, .int x) :: l) k = (i, .int x) :: am_fl l k := by simp [am_fl, hi, Value.category]
theorem am_fl_ref {i k : Nat} {x : Nat} {l : am_L} (hi : i ≠ k) : am_fl ((i, .ref x) :: l) k = (i, .ref x) :: am_fl l k := by simp [am_fl, hi, Value.category]
theorem am_fl_null {i k : Nat} {l : am_L} (hi : i ≠ k) : am_fl ((i, .null) :: l) k = (i, .null) :: am_fl l k := by simp [am_fl, hi, Value.category]
theorem am_fl_long {i k : Nat} {x : Int64} {l : am_L} (hi : i ≠ k) (hj : i + 1 ≠ k) : am_fl ((i, .long x) :: l) k = (i, .long x) :: am_fl l k := by simp [am_fl, hi, hj, Value.category]
theorem am_fl_longx {i k : Nat} {x : Int64} {l : am_L} (hj : i + 1 = k) : am_fl ((i, .long x) :: l) k = am_fl l k := by simp [am_fl, hj, Value.category]
theorem am_fl2_hit {k : Nat} {v : Value} {l : am_L} : am_fl2 ((k, v) :: l) k = am_fl2 l k := by simp [am_fl2]
theorem am_fl2_hit1 {i k : Nat} {v : Value} {l : am_L} (hi : i = k + 1) : am_fl2 ((i, v) :: l) k = am_fl2 l k := by simp [am_fl2, hi]
theorem am_fl2_int {i k : Nat} {x : Int32} {l : am_L} (hi : i ≠ k) (hj : i ≠ k + 1) : am_fl2 ((i, .int x) :: l) k = (i, .int x) :: am_fl2 l k := by simp [am_fl2, hi, hj, Value.category]
theorem am_fl2_ref {i k : Nat} {x : Nat} {l : am_L} (hi : i ≠ k) (hj : i ≠ k + 1) : am_fl2 ((i, .ref x) :: l) k = (i, .ref x) :: am_fl2 l k := by simp [am_fl2, hi, hj, Value.category]
theorem am_fl2_long {i k : Nat} {x : Int64} {l : am_L} (hi : i ≠ k) (hj : i ≠ k + 1) (hm : i + 1 ≠ k) : am_fl2 ((i, .long x) :: l) k = (i, .long x) :: am_fl2 l k := by simp [am_fl2, hi, hj, hm, Value.category]
theorem am_ob_hit {ci : Nat} {fs : List Value} {g : List Value → Option am_C} : am_ob (.inr (ci, fs)) ci g = g fs := by simp [am_ob]
theorem am_fd_0 {v : Value} {l : List Value} {g : Value → Option am_C} : am_fd (v :: l) 0 g = g v := Eq.trans rfl rfl
theorem am_fd_s {k : Nat} {v : Value} {l : List Value} {g : Value → Option am_C} : am_fd (v :: l) (k + 1) g = am_fd l k g := Eq.trans rfl rfl
theorem am_ai_hit {n : Nat} {f : Nat → Int32} {i : Int32} {t : Nat} {g : Nat → (Nat → Int32) → Option am_C} : am_ai (.inl (t, n, .inl f)) t i g = if i < 0 ∨ n ≤ i.toNatClampNeg then none else g n f := by simp [am_ai]
theorem am_ab_3 {n : Nat} {f : Nat → Int32} {i : Int32} {g : Nat → Nat → (Nat → Int32) → Option am_C} : am_ab (.inl (3, n, .inl f)) i g = if i < 0 ∨ n ≤ i.toNatClampNeg then none else g 3 n f := by simp [am_ab]
theorem am_al_hit {n : Nat} {f : Nat → Int64} {i : Int32} {t : Nat} {g : Nat → (Nat → Int64) → Option am_C} : am_al (.inl (t, n, .inr (.inl f))) t i g = if i < 0 ∨ n ≤ i.toNatClampNeg then none else g n f := by simp [am_al]
theorem am_aq_4 {n : Nat} {f : Nat → Option Nat} {i : Int32} {g : Nat → (Nat → Option Nat) → Option am_C} : am_aq (.inl (4, n, .inr (.inr (.inr (.inr f))))) i g = if i < 0 ∨ n ≤ i.toNatClampNeg then none else g n f := by simp [am_aq]
theorem am_al0_hit {t n : Nat} {f : (Nat → Int32) ⊕ (Nat → Int64) ⊕ (Nat → UInt32) ⊕ (Nat → UInt64) ⊕ (Nat → Option Nat)} {g : Nat → Option am_C} : am_al0 (.inl (t, n, f)) g = g n := Eq.trans rfl rfl
theorem am_up_hit {α : Type} {f : Nat → α} {k : Nat} {v : α} : va_up f k v k = v := if_pos rfl
theorem am_up_miss {α : Type} {f : Nat → α} {i k : Nat} {v : α} (hi : i ≠ k) : va_up f k v i = f i := if_neg hi
theorem am_put_1 {h : am_H} {a : Nat} {E : am_E} : (am_put h a E).1 = va_up h.1 a E := Eq.trans rfl rfl
theorem am_put_put {h : am_H} {a : Nat} {E E' : am_E} : am_put (am_put h a E) a E' = am_put h a E' := by
  unfold am_put
  have e : va_up (va_up h.1 a E) a E' = va_up h.1 a E' := bx_uu h.1 a E E'
  exact congrArg (fun f => (f, h.2)) e
theorem am_put_2 {h : am_H} {a : Nat} {E : am_E} : (am_put h a E).2 = h.2 := Eq.trans rfl rfl
theorem am_ct_of2 {df : Nat → List Value} {MT : List am_M} {d z : Nat} {as : List Value} {h : am_H} {Q : Option Value → am_H → Prop} {y : MethodName} {bytes : ByteArray} {maxL : Nat} {ret : Option FieldType} {pos : Nat × Nat × Nat × Nat} {code : List am_I} (hM : MT[z]? = some (y, bytes, maxL, ret, pos, code)) (hl : (lg_sl as).length ≤ maxL) (g : am_Go df MT d code (0, lv_args 0 as, [], h) Q) : am_Ct df MT (d + 1) z as h Q := am_ct_of hM hl g
theorem ar_nil {i : Nat} : lv_args i [] = [] := Eq.trans rfl rfl
theorem ar_int {i : Nat} {x : Int32} {vs : List Value} : lv_args i (.int x :: vs) = (i, .int x) :: lv_args (i + 1) vs := Eq.trans rfl rfl
theorem ar_ref {i : Nat} {x : Nat} {vs : List Value} : lv_args i (.ref x :: vs) = (i, .ref x) :: lv_args (i + 1) vs := Eq.trans rfl rfl
theorem ar_long {i : Nat} {x : Int64} {vs : List Value} : lv_args i (.long x :: vs) = (i, .long x) :: lv_args (i + 2) vs := Eq.trans rfl rfl
theorem am_W_0 {df : Nat → List Value} {MT : List am_M} {d : Nat} {code : List am_I} {cuts : List Nat} {Q : Option Value → am_H → Prop} {X : am_C} : am_W df MT d code cuts Q 0 X = am_Go df MT d code X Q := Eq.trans rfl rfl
def am_mm {α : Type} (o : Option α) (f : α → Prop) : Prop := match o with
  | some e => f e
  | none => False
theorem am_mm_some {α : Type} {e : α} {f : α → Prop} : am_mm (some e) f = f e := Eq.trans rfl rfl
theorem am_W_s {df : Nat → List Value} {MT : List am_M} {d : Nat} {code : List am_I} {cuts : List Nat} {Q : Option Value → am_H → Prop} {n j : Nat} {lv : am_L} {st : List Value} {h : am_H} : am_W df MT d code cuts Q (n + 1) (j, lv, st, h) = if j ∈ cuts then am_Go df MT d code (j, lv, st, h) Q else am_mm (code[j]?) (fun e => am_S df MT d e j lv st h (am_W df MT d code cuts Q n) Q) := by
  unfold am_W
  split
  · rfl
  · cases code[j]? <;> rfl
end SX
