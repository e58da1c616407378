section AMO
variable {p : Program} {l : Launch} {e : Env} {R : Room} {s : State} {m : MethodId} {args : Array Value} {below : List Frame} {meth : Method} {c : Code} {Q : State → Prop}
variable {cc : ByteArray} {D : va_G} {cl : List vw_C} {tys : List (ClassId × FieldType)} {b c0 L : Nat} {xs : Nat → Int32} {h0 h : am_H} {nL : Nat} {pcs : Nat → Nat} {own : String} {Tb : List Cond}
variable {H : Heap} {locs : List Loc} {ls : Array Slot} {cells slots : Nat} {lv : am_L} {st : List Value} {j pc : Nat} {X : am_C}
theorem am_w_iconst {nn : Int} (C : CallFix p m c cc nL s args Tb own) (hd : decode cc pc = .ok (.iconst nn, 1)) (hnx : pcs (j + 1) = pc + 1) (hn : some (j + 1, lv, .int (Int32.ofInt nn) :: st, h) = some X) (hB : am_B D cl tys b c0 L xs s h0 nL h lv H locs ls cells slots) (K : am_K p l e R s m args below meth c Q D cl tys b c0 L xs h0 nL pcs X) : W p l e R s m args below meth c H locs cells slots Q (F0 m pc ls (st.map (am_r b c0))) := by
  cases hn
  have k9 := K _ _ _ _ _ hB
  dsimp only at k9
  rw [hnx] at k9
  exact lv_iconst C.1 C.2.1 hd rfl k9
theorem am_w_bipush {nn : Int} (C : CallFix p m c cc nL s args Tb own) (hd : decode cc pc = .ok (.bipush nn, 2)) (hnx : pcs (j + 1) = pc + 2) (hn : some (j + 1, lv, .int (Int8.ofInt nn).toInt32 :: st, h) = some X) (hB : am_B D cl tys b c0 L xs s h0 nL h lv H locs ls cells slots) (K : am_K p l e R s m args below meth c Q D cl tys b c0 L xs h0 nL pcs X) : W p l e R s m args below meth c H locs cells slots Q (F0 m pc ls (st.map (am_r b c0))) := by
  cases hn
  have k9 := K _ _ _ _ _ hB
  dsimp only at k9
  rw [hnx] at k9
  exact lv_bipush C.1 C.2.1 hd rfl k9
theorem am_w_sipush {nn : Int} (C : CallFix p m c cc nL s args Tb own) (hd : decode cc pc = .ok (.sipush nn, 3)) (hnx : pcs (j + 1) = pc + 3) (hn : some (j + 1, lv, .int (Int16.ofInt nn).toInt32 :: st, h) = some X) (hB : am_B D cl tys b c0 L xs s h0 nL h lv H locs ls cells slots) (K : am_K p l e R s m args below meth c Q D cl tys b c0 L xs h0 nL pcs X) : W p l e R s m args below meth c H locs cells slots Q (F0 m pc ls (st.map (am_r b c0))) := by
  cases hn
  have k9 := K _ _ _ _ _ hB
  dsimp only at k9
  rw [hnx] at k9
  exact lv_sipush C.1 C.2.1 hd rfl k9
theorem am_w_lconst {nn : Fin 2} (C : CallFix p m c cc nL s args Tb own) (hd : decode cc pc = .ok (.lconst nn, 1)) (hnx : pcs (j + 1) = pc + 1) (hn : some (j + 1, lv, .long (Int64.ofNat (nn : Nat)) :: st, h) = some X) (hB : am_B D cl tys b c0 L xs s h0 nL h lv H locs ls cells slots) (K : am_K p l e R s m args below meth c Q D cl tys b c0 L xs h0 nL pcs X) : W p l e R s m args below meth c H locs cells slots Q (F0 m pc ls (st.map (am_r b c0))) := by
  cases hn
  have k9 := K _ _ _ _ _ hB
  dsimp only at k9
  rw [hnx] at k9
  exact lv_lconst C.1 C.2.1 hd rfl k9
theorem am_w_ldc {nn : Nat} {vv : Int32} (C : CallFix p m c cc nL s args Tb own) (hw : Jvm.Cond.constant own nn vv ∈ Tb) (hd : decode cc pc = .ok (.ldc nn, 2)) (hnx : pcs (j + 1) = pc + 2) (hn : some (j + 1, lv, .int vv :: st, h) = some X) (hB : am_B D cl tys b c0 L xs s h0 nL h lv H locs ls cells slots) (K : am_K p l e R s m args below meth c Q D cl tys b c0 L xs h0 nL pcs X) : W p l e R s m args below meth c H locs cells slots Q (F0 m pc ls (st.map (am_r b c0))) := by
  cases hn
  have k9 := K _ _ _ _ _ hB
  dsimp only at k9
  rw [hnx] at k9
  exact lv_ldc C.1 C.2.1 C.2.2.2.1 (C.2.2.2.2 _ hw) hd k9
theorem am_w_ldc_w {nn : Nat} {vv : Int32} (C : CallFix p m c cc nL s args Tb own) (hw : Jvm.Cond.constant own nn vv ∈ Tb) (hd : decode cc pc = .ok (.ldc_w nn, 3)) (hnx : pcs (j + 1) = pc + 3) (hn : some (j + 1, lv, .int vv :: st, h) = some X) (hB : am_B D cl tys b c0 L xs s h0 nL h lv H locs ls cells slots) (K : am_K p l e R s m args below meth c Q D cl tys b c0 L xs h0 nL pcs X) : W p l e R s m args below meth c H locs cells slots Q (F0 m pc ls (st.map (am_r b c0))) := by
  cases hn
  have k9 := K _ _ _ _ _ hB
  dsimp only at k9
  rw [hnx] at k9
  exact lv_ldcw C.1 C.2.1 C.2.2.2.1 (C.2.2.2.2 _ hw) hd k9
theorem am_w_ldc2_w {nn : Nat} {vv : Int64} (C : CallFix p m c cc nL s args Tb own) (hw : Jvm.Cond.constantLong own nn vv ∈ Tb) (hd : decode cc pc = .ok (.ldc2_w nn, 3)) (hnx : pcs (j + 1) = pc + 3) (hn : some (j + 1, lv, .long vv :: st, h) = some X) (hB : am_B D cl tys b c0 L xs s h0 nL h lv H locs ls cells slots) (K : am_K p l e R s m args below meth c Q D cl tys b c0 L xs h0 nL pcs X) : W p l e R s m args below meth c H locs cells slots Q (F0 m pc ls (st.map (am_r b c0))) := by
  cases hn
  have k9 := K _ _ _ _ _ hB
  dsimp only at k9
  rw [hnx] at k9
  exact lv_ldc2 C.1 C.2.1 C.2.2.2.1 (C.2.2.2.2 _ hw) hd k9
theorem am_w_aconst_null (C : CallFix p m c cc nL s args Tb own) (hd : decode cc pc = .ok (.aconst_null, 1)) (hnx : pcs (j + 1) = pc + 1) (hn : some (j + 1, lv, .null :: st, h) = some X) (hB : am_B D cl tys b c0 L xs s h0 nL h lv H locs ls cells slots) (K : am_K p l e R s m args below meth c Q D cl tys b c0 L xs h0 nL pcs X) : W p l e R s m args below meth c H locs cells slots Q (F0 m pc ls (st.map (am_r b c0))) := by
  cases hn
  have k9 := K _ _ _ _ _ hB
  dsimp only at k9
  rw [hnx] at k9
  exact lv_null C.1 C.2.1 hd k9
theorem am_w_iload_n {kk : Fin 4} (C : CallFix p m c cc nL s args Tb own) (hd : decode cc pc = .ok (.iload_n kk, 1)) (hnx : pcs (j + 1) = pc + 1) (hn : am_ldi lv (kk : Nat) (fun v => some (j + 1, lv, v :: st, h)) = some X) (hB : am_B D cl tys b c0 L xs s h0 nL h lv H locs ls cells slots) (K : am_K p l e R s m args below meth c Q D cl tys b c0 L xs h0 nL pcs X) : W p l e R s m args below meth c H locs cells slots Q (F0 m pc ls (st.map (am_r b c0))) := by
  unfold am_ldi at hn
  split at hn
  · rename_i x hx
    cases hn
    have k9 := K _ _ _ _ _ hB
    dsimp only at k9
    rw [hnx] at k9
    exact lv_iload_n C.1 C.2.1 hd rfl (am_ld hB.2.1 hx) k9
  · cases hn
theorem am_w_iload {kk : Nat} (C : CallFix p m c cc nL s args Tb own) (hd : decode cc pc = .ok (.iload kk, 2)) (hnx : pcs (j + 1) = pc + 2) (hn : am_ldi lv kk (fun v => some (j + 1, lv, v :: st, h)) = some X) (hB : am_B D cl tys b c0 L xs s h0 nL h lv H locs ls cells slots) (K : am_K p l e R s m args below meth c Q D cl tys b c0 L xs h0 nL pcs X) : W p l e R s m args below meth c H locs cells slots Q (F0 m pc ls (st.map (am_r b c0))) := by
  unfold am_ldi at hn
  split at hn
  · rename_i x hx
    cases hn
    have k9 := K _ _ _ _ _ hB
    dsimp only at k9
    rw [hnx] at k9
    exact lv_iload C.1 C.2.1 hd (am_ld hB.2.1 hx) k9
  · cases hn
theorem am_w_lload_n {kk : Fin 4} (C : CallFix p m c cc nL s args Tb own) (hd : decode cc pc = .ok (.lload_n kk, 1)) (hnx : pcs (j + 1) = pc + 1) (hn : am_ldl lv (kk : Nat) (fun v => some (j + 1, lv, v :: st, h)) = some X) (hB : am_B D cl tys b c0 L xs s h0 nL h lv H locs ls cells slots) (K : am_K p l e R s m args below meth c Q D cl tys b c0 L xs h0 nL pcs X) : W p l e R s m args below meth c H locs cells slots Q (F0 m pc ls (st.map (am_r b c0))) := by
  unfold am_ldl at hn
  split at hn
  · rename_i x hx
    cases hn
    have k9 := K _ _ _ _ _ hB
    dsimp only at k9
    rw [hnx] at k9
    exact lv_lload_n C.1 C.2.1 hd rfl (am_ld hB.2.1 hx) k9
  · cases hn
theorem am_w_lload {kk : Nat} (C : CallFix p m c cc nL s args Tb own) (hd : decode cc pc = .ok (.lload kk, 2)) (hnx : pcs (j + 1) = pc + 2) (hn : am_ldl lv kk (fun v => some (j + 1, lv, v :: st, h)) = some X) (hB : am_B D cl tys b c0 L xs s h0 nL h lv H locs ls cells slots) (K : am_K p l e R s m args below meth c Q D cl tys b c0 L xs h0 nL pcs X) : W p l e R s m args below meth c H locs cells slots Q (F0 m pc ls (st.map (am_r b c0))) := by
  unfold am_ldl at hn
  split at hn
  · rename_i x hx
    cases hn
    have k9 := K _ _ _ _ _ hB
    dsimp only at k9
    rw [hnx] at k9
    exact lv_lload C.1 C.2.1 hd (am_ld hB.2.1 hx) k9
  · cases hn
theorem am_w_aload_n {kk : Fin 4} (C : CallFix p m c cc nL s args Tb own) (hd : decode cc pc = .ok (.aload_n kk, 1)) (hnx : pcs (j + 1) = pc + 1) (hn : am_lda lv (kk : Nat) (fun v => some (j + 1, lv, v :: st, h)) = some X) (hB : am_B D cl tys b c0 L xs s h0 nL h lv H locs ls cells slots) (K : am_K p l e R s m args below meth c Q D cl tys b c0 L xs h0 nL pcs X) : W p l e R s m args below meth c H locs cells slots Q (F0 m pc ls (st.map (am_r b c0))) := by
  unfold am_lda at hn
  split at hn
  · rename_i x hx
    cases hn
    have k9 := K _ _ _ _ _ hB
    dsimp only at k9
    rw [hnx] at k9
    exact lv_aload_n C.1 C.2.1 hd rfl (am_ld hB.2.1 hx) k9
  · rename_i hx
    cases hn
    have k9 := K _ _ _ _ _ hB
    dsimp only at k9
    rw [hnx] at k9
    exact lv_aload_nN C.1 C.2.1 hd rfl (am_ld hB.2.1 hx) k9
  · cases hn
theorem am_w_aload {kk : Nat} (C : CallFix p m c cc nL s args Tb own) (hd : decode cc pc = .ok (.aload kk, 2)) (hnx : pcs (j + 1) = pc + 2) (hn : am_lda lv kk (fun v => some (j + 1, lv, v :: st, h)) = some X) (hB : am_B D cl tys b c0 L xs s h0 nL h lv H locs ls cells slots) (K : am_K p l e R s m args below meth c Q D cl tys b c0 L xs h0 nL pcs X) : W p l e R s m args below meth c H locs cells slots Q (F0 m pc ls (st.map (am_r b c0))) := by
  unfold am_lda at hn
  split at hn
  · rename_i x hx
    cases hn
    have k9 := K _ _ _ _ _ hB
    dsimp only at k9
    rw [hnx] at k9
    exact lv_aload C.1 C.2.1 hd (am_ld hB.2.1 hx) k9
  · rename_i hx
    cases hn
    have k9 := K _ _ _ _ _ hB
    dsimp only at k9
    rw [hnx] at k9
    exact lv_aloadN C.1 C.2.1 hd (am_ld hB.2.1 hx) k9
  · cases hn
theorem am_w_istore_n {kk : Fin 4} (C : CallFix p m c cc nL s args Tb own) (hd : decode cc pc = .ok (.istore_n kk, 1)) (hnx : pcs (j + 1) = pc + 1) (hlim : (kk : Nat) < nL) (hn : am_i1 st (fun x r => some (j + 1, am_s1 lv (kk : Nat) (.int x), r, h)) = some X) (hB : am_B D cl tys b c0 L xs s h0 nL h lv H locs ls cells slots) (K : am_K p l e R s m args below meth c Q D cl tys b c0 L xs h0 nL pcs X) : W p l e R s m args below meth c H locs cells slots Q (F0 m pc ls (st.map (am_r b c0))) := by
  unfold am_i1 at hn
  split at hn
  · rename_i x r
    cases hn
    refine lv_istore_n C.1 C.2.1 hd rfl hB.2.1 hlim (am_rl_s1 b c0 lv (kk : Nat) (.int x)) (fun ls1 hl1 => ?_)
    have k9 := K _ _ _ _ _ ⟨hB.1, hl1, hB.2.2⟩
    dsimp only at k9
    rw [hnx] at k9
    exact k9
  · cases hn
theorem am_w_istore {kk : Nat} (C : CallFix p m c cc nL s args Tb own) (hd : decode cc pc = .ok (.istore kk, 2)) (hnx : pcs (j + 1) = pc + 2) (hlim : kk < nL) (hn : am_i1 st (fun x r => some (j + 1, am_s1 lv kk (.int x), r, h)) = some X) (hB : am_B D cl tys b c0 L xs s h0 nL h lv H locs ls cells slots) (K : am_K p l e R s m args below meth c Q D cl tys b c0 L xs h0 nL pcs X) : W p l e R s m args below meth c H locs cells slots Q (F0 m pc ls (st.map (am_r b c0))) := by
  unfold am_i1 at hn
  split at hn
  · rename_i x r
    cases hn
    refine lv_istore C.1 C.2.1 hd hB.2.1 hlim (am_rl_s1 b c0 lv kk (.int x)) (fun ls1 hl1 => ?_)
    have k9 := K _ _ _ _ _ ⟨hB.1, hl1, hB.2.2⟩
    dsimp only at k9
    rw [hnx] at k9
    exact k9
  · cases hn
theorem am_w_lstore_n {kk : Fin 4} (C : CallFix p m c cc nL s args Tb own) (hd : decode cc pc = .ok (.lstore_n kk, 1)) (hnx : pcs (j + 1) = pc + 1) (hlim : (kk : Nat) + 1 < nL) (hn : am_l1 st (fun x r => some (j + 1, am_s2 lv (kk : Nat) (.long x), r, h)) = some X) (hB : am_B D cl tys b c0 L xs s h0 nL h lv H locs ls cells slots) (K : am_K p l e R s m args below meth c Q D cl tys b c0 L xs h0 nL pcs X) : W p l e R s m args below meth c H locs cells slots Q (F0 m pc ls (st.map (am_r b c0))) := by
  unfold am_l1 at hn
  split at hn
  · rename_i x r
    cases hn
    refine lv_lstore_n C.1 C.2.1 hd rfl hB.2.1 hlim (am_rl_s2 b c0 lv (kk : Nat) (.long x)) (fun ls1 hl1 => ?_)
    have k9 := K _ _ _ _ _ ⟨hB.1, hl1, hB.2.2⟩
    dsimp only at k9
    rw [hnx] at k9
    exact k9
  · cases hn
theorem am_w_lstore {kk : Nat} (C : CallFix p m c cc nL s args Tb own) (hd : decode cc pc = .ok (.lstore kk, 2)) (hnx : pcs (j + 1) = pc + 2) (hlim : kk + 1 < nL) (hn : am_l1 st (fun x r => some (j + 1, am_s2 lv kk (.long x), r, h)) = some X) (hB : am_B D cl tys b c0 L xs s h0 nL h lv H locs ls cells slots) (K : am_K p l e R s m args below meth c Q D cl tys b c0 L xs h0 nL pcs X) : W p l e R s m args below meth c H locs cells slots Q (F0 m pc ls (st.map (am_r b c0))) := by
  unfold am_l1 at hn
  split at hn
  · rename_i x r
    cases hn
    refine lv_lstore C.1 C.2.1 hd hB.2.1 hlim (am_rl_s2 b c0 lv kk (.long x)) (fun ls1 hl1 => ?_)
    have k9 := K _ _ _ _ _ ⟨hB.1, hl1, hB.2.2⟩
    dsimp only at k9
    rw [hnx] at k9
    exact k9
  · cases hn
theorem am_w_astore_n {kk : Fin 4} (C : CallFix p m c cc nL s args Tb own) (hd : decode cc pc = .ok (.astore_n kk, 1)) (hnx : pcs (j + 1) = pc + 1) (hlim : (kk : Nat) < nL) (hn : am_r1 st (fun x r => some (j + 1, am_s1 lv (kk : Nat) (.ref x), r, h)) = some X) (hB : am_B D cl tys b c0 L xs s h0 nL h lv H locs ls cells slots) (K : am_K p l e R s m args below meth c Q D cl tys b c0 L xs h0 nL pcs X) : W p l e R s m args below meth c H locs cells slots Q (F0 m pc ls (st.map (am_r b c0))) := by
  unfold am_r1 at hn
  split at hn
  · rename_i x r
    cases hn
    refine lv_astore_n C.1 C.2.1 hd rfl hB.2.1 hlim (am_rl_s1 b c0 lv (kk : Nat) (.ref x)) (fun ls1 hl1 => ?_)
    have k9 := K _ _ _ _ _ ⟨hB.1, hl1, hB.2.2⟩
    dsimp only at k9
    rw [hnx] at k9
    exact k9
  · cases hn
theorem am_w_astore {kk : Nat} (C : CallFix p m c cc nL s args Tb own) (hd : decode cc pc = .ok (.astore kk, 2)) (hnx : pcs (j + 1) = pc + 2) (hlim : kk < nL) (hn : am_r1 st (fun x r => some (j + 1, am_s1 lv kk (.ref x), r, h)) = some X) (hB : am_B D cl tys b c0 L xs s h0 nL h lv H locs ls cells slots) (K : am_K p l e R s m args below meth c Q D cl tys b c0 L xs h0 nL pcs X) : W p l e R s m args below meth c H locs cells slots Q (F0 m pc ls (st.map (am_r b c0))) := by
  unfold am_r1 at hn
  split at hn
  · rename_i x r
    cases hn
    refine lv_astore C.1 C.2.1 hd hB.2.1 hlim (am_rl_s1 b c0 lv kk (.ref x)) (fun ls1 hl1 => ?_)
    have k9 := K _ _ _ _ _ ⟨hB.1, hl1, hB.2.2⟩
    dsimp only at k9
    rw [hnx] at k9
    exact k9
  · cases hn
theorem am_w_iinc {kk : Nat} {nn : Int} (C : CallFix p m c cc nL s args Tb own) (hd : decode cc pc = .ok (.iinc kk nn, 3)) (hnx : pcs (j + 1) = pc + 3) (hlim : kk < nL) (hn : am_inc lv kk nn (fun l1 => some (j + 1, l1, st, h)) = some X) (hB : am_B D cl tys b c0 L xs s h0 nL h lv H locs ls cells slots) (K : am_K p l e R s m args below meth c Q D cl tys b c0 L xs h0 nL pcs X) : W p l e R s m args below meth c H locs cells slots Q (F0 m pc ls (st.map (am_r b c0))) := by
  unfold am_inc at hn
  split at hn
  · rename_i x hx
    cases hn
    obtain ⟨i, hi⟩ := am_ldp (b := b) (c0 := c0) hx
    refine lv_iinc C.1 C.2.1 hd hB.2.1 (k := i) (x := x) hi rfl hlim (am_rl_s1 b c0 lv kk (.int (x + Int32.ofInt nn))) (fun ls1 hl1 => ?_)
    have k9 := K _ _ _ _ _ ⟨hB.1, hl1, hB.2.2⟩
    dsimp only at k9
    rw [hnx] at k9
    exact k9
  · cases hn
theorem am_w_iadd (C : CallFix p m c cc nL s args Tb own) (hd : decode cc pc = .ok (.iadd, 1)) (hnx : pcs (j + 1) = pc + 1) (hn : am_i2 st (fun x y r => some (j + 1, lv, .int (x + y) :: r, h)) = some X) (hB : am_B D cl tys b c0 L xs s h0 nL h lv H locs ls cells slots) (K : am_K p l e R s m args below meth c Q D cl tys b c0 L xs h0 nL pcs X) : W p l e R s m args below meth c H locs cells slots Q (F0 m pc ls (st.map (am_r b c0))) := by
  unfold am_i2 at hn
  split at hn
  · rename_i y x r
    cases hn
    have k9 := K _ _ _ _ _ hB
    dsimp only at k9
    rw [hnx] at k9
    exact lv_iadd C.1 C.2.1 hd k9
  · cases hn
theorem am_w_isub (C : CallFix p m c cc nL s args Tb own) (hd : decode cc pc = .ok (.isub, 1)) (hnx : pcs (j + 1) = pc + 1) (hn : am_i2 st (fun x y r => some (j + 1, lv, .int (x - y) :: r, h)) = some X) (hB : am_B D cl tys b c0 L xs s h0 nL h lv H locs ls cells slots) (K : am_K p l e R s m args below meth c Q D cl tys b c0 L xs h0 nL pcs X) : W p l e R s m args below meth c H locs cells slots Q (F0 m pc ls (st.map (am_r b c0))) := by
  unfold am_i2 at hn
  split at hn
  · rename_i y x r
    cases hn
    have k9 := K _ _ _ _ _ hB
    dsimp only at k9
    rw [hnx] at k9
    exact lv_isub C.1 C.2.1 hd k9
  · cases hn
theorem am_w_imul (C : CallFix p m c cc nL s args Tb own) (hd : decode cc pc = .ok (.imul, 1)) (hnx : pcs (j + 1) = pc + 1) (hn : am_i2 st (fun x y r => some (j + 1, lv, .int (x * y) :: r, h)) = some X) (hB : am_B D cl tys b c0 L xs s h0 nL h lv H locs ls cells slots) (K : am_K p l e R s m args below meth c Q D cl tys b c0 L xs h0 nL pcs X) : W p l e R s m args below meth c H locs cells slots Q (F0 m pc ls (st.map (am_r b c0))) := by
  unfold am_i2 at hn
  split at hn
  · rename_i y x r
    cases hn
    have k9 := K _ _ _ _ _ hB
    dsimp only at k9
    rw [hnx] at k9
    exact lv_imul C.1 C.2.1 hd k9
  · cases hn
theorem am_w_iand (C : CallFix p m c cc nL s args Tb own) (hd : decode cc pc = .ok (.iand, 1)) (hnx : pcs (j + 1) = pc + 1) (hn : am_i2 st (fun x y r => some (j + 1, lv, .int (x &&& y) :: r, h)) = some X) (hB : am_B D cl tys b c0 L xs s h0 nL h lv H locs ls cells slots) (K : am_K p l e R s m args below meth c Q D cl tys b c0 L xs h0 nL pcs X) : W p l e R s m args below meth c H locs cells slots Q (F0 m pc ls (st.map (am_r b c0))) := by
  unfold am_i2 at hn
  split at hn
  · rename_i y x r
    cases hn
    have k9 := K _ _ _ _ _ hB
    dsimp only at k9
    rw [hnx] at k9
    exact lv_iand C.1 C.2.1 hd k9
  · cases hn
theorem am_w_ior (C : CallFix p m c cc nL s args Tb own) (hd : decode cc pc = .ok (.ior, 1)) (hnx : pcs (j + 1) = pc + 1) (hn : am_i2 st (fun x y r => some (j + 1, lv, .int (x ||| y) :: r, h)) = some X) (hB : am_B D cl tys b c0 L xs s h0 nL h lv H locs ls cells slots) (K : am_K p l e R s m args below meth c Q D cl tys b c0 L xs h0 nL pcs X) : W p l e R s m args below meth c H locs cells slots Q (F0 m pc ls (st.map (am_r b c0))) := by
  unfold am_i2 at hn
  split at hn
  · rename_i y x r
    cases hn
    have k9 := K _ _ _ _ _ hB
    dsimp only at k9
    rw [hnx] at k9
    exact lv_ior C.1 C.2.1 hd k9
  · cases hn
theorem am_w_ixor (C : CallFix p m c cc nL s args Tb own) (hd : decode cc pc = .ok (.ixor, 1)) (hnx : pcs (j + 1) = pc + 1) (hn : am_i2 st (fun x y r => some (j + 1, lv, .int (x ^^^ y) :: r, h)) = some X) (hB : am_B D cl tys b c0 L xs s h0 nL h lv H locs ls cells slots) (K : am_K p l e R s m args below meth c Q D cl tys b c0 L xs h0 nL pcs X) : W p l e R s m args below meth c H locs cells slots Q (F0 m pc ls (st.map (am_r b c0))) := by
  unfold am_i2 at hn
  split at hn
  · rename_i y x r
    cases hn
    have k9 := K _ _ _ _ _ hB
    dsimp only at k9
    rw [hnx] at k9
    exact lv_ixor C.1 C.2.1 hd k9
  · cases hn
theorem am_w_ishl (C : CallFix p m c cc nL s args Tb own) (hd : decode cc pc = .ok (.ishl, 1)) (hnx : pcs (j + 1) = pc + 1) (hn : am_i2 st (fun x y r => some (j + 1, lv, .int (x <<< (y &&& 31)) :: r, h)) = some X) (hB : am_B D cl tys b c0 L xs s h0 nL h lv H locs ls cells slots) (K : am_K p l e R s m args below meth c Q D cl tys b c0 L xs h0 nL pcs X) : W p l e R s m args below meth c H locs cells slots Q (F0 m pc ls (st.map (am_r b c0))) := by
  unfold am_i2 at hn
  split at hn
  · rename_i y x r
    cases hn
    have k9 := K _ _ _ _ _ hB
    dsimp only at k9
    rw [hnx] at k9
    exact lv_ishl C.1 C.2.1 hd k9
  · cases hn
theorem am_w_ishr (C : CallFix p m c cc nL s args Tb own) (hd : decode cc pc = .ok (.ishr, 1)) (hnx : pcs (j + 1) = pc + 1) (hn : am_i2 st (fun x y r => some (j + 1, lv, .int (x >>> (y &&& 31)) :: r, h)) = some X) (hB : am_B D cl tys b c0 L xs s h0 nL h lv H locs ls cells slots) (K : am_K p l e R s m args below meth c Q D cl tys b c0 L xs h0 nL pcs X) : W p l e R s m args below meth c H locs cells slots Q (F0 m pc ls (st.map (am_r b c0))) := by
  unfold am_i2 at hn
  split at hn
  · rename_i y x r
    cases hn
    have k9 := K _ _ _ _ _ hB
    dsimp only at k9
    rw [hnx] at k9
    exact lv_ishr C.1 C.2.1 hd k9
  · cases hn
theorem am_w_idiv (C : CallFix p m c cc nL s args Tb own) (hd : decode cc pc = .ok (.idiv, 1)) (hnx : pcs (j + 1) = pc + 1) (hn : am_i2 st (fun x y r => if y = 0 then none else some (j + 1, lv, .int (x / y) :: r, h)) = some X) (hB : am_B D cl tys b c0 L xs s h0 nL h lv H locs ls cells slots) (K : am_K p l e R s m args below meth c Q D cl tys b c0 L xs h0 nL pcs X) : W p l e R s m args below meth c H locs cells slots Q (F0 m pc ls (st.map (am_r b c0))) := by
  unfold am_i2 at hn
  split at hn
  · rename_i y x r
    dsimp only at hn
    split at hn
    · cases hn
    rename_i hne
    cases hn
    have k9 := K _ _ _ _ _ hB
    dsimp only at k9
    rw [hnx] at k9
    exact lv_idiv C.1 C.2.1 hd hne k9
  · cases hn
theorem am_w_irem (C : CallFix p m c cc nL s args Tb own) (hd : decode cc pc = .ok (.irem, 1)) (hnx : pcs (j + 1) = pc + 1) (hn : am_i2 st (fun x y r => if y = 0 then none else some (j + 1, lv, .int (x - x / y * y) :: r, h)) = some X) (hB : am_B D cl tys b c0 L xs s h0 nL h lv H locs ls cells slots) (K : am_K p l e R s m args below meth c Q D cl tys b c0 L xs h0 nL pcs X) : W p l e R s m args below meth c H locs cells slots Q (F0 m pc ls (st.map (am_r b c0))) := by
  unfold am_i2 at hn
  split at hn
  · rename_i y x r
    dsimp only at hn
    split at hn
    · cases hn
    rename_i hne
    cases hn
    have k9 := K _ _ _ _ _ hB
    dsimp only at k9
    rw [hnx] at k9
    exact lv_irem C.1 C.2.1 hd hne k9
  · cases hn
theorem am_w_ineg (C : CallFix p m c cc nL s args Tb own) (hd : decode cc pc = .ok (.ineg, 1)) (hnx : pcs (j + 1) = pc + 1) (hn : am_i1 st (fun x r => some (j + 1, lv, .int (-x) :: r, h)) = some X) (hB : am_B D cl tys b c0 L xs s h0 nL h lv H locs ls cells slots) (K : am_K p l e R s m args below meth c Q D cl tys b c0 L xs h0 nL pcs X) : W p l e R s m args below meth c H locs cells slots Q (F0 m pc ls (st.map (am_r b c0))) := by
  unfold am_i1 at hn
  split at hn
  · rename_i x r
    cases hn
    have k9 := K _ _ _ _ _ hB
    dsimp only at k9
    rw [hnx] at k9
    exact lv_ineg C.1 C.2.1 hd k9
  · cases hn
theorem am_w_iushr (C : CallFix p m c cc nL s args Tb own) (hd : decode cc pc = .ok (.iushr, 1)) (hnx : pcs (j + 1) = pc + 1) (hn : am_i2 st (fun x y r => some (j + 1, lv, .int (x.toUInt32 >>> (y.toUInt32 &&& Int32.toUInt32 31)).toInt32 :: r, h)) = some X) (hB : am_B D cl tys b c0 L xs s h0 nL h lv H locs ls cells slots) (K : am_K p l e R s m args below meth c Q D cl tys b c0 L xs h0 nL pcs X) : W p l e R s m args below meth c H locs cells slots Q (F0 m pc ls (st.map (am_r b c0))) := by
  unfold am_i2 at hn
  split at hn
  · rename_i y x r
    cases hn
    have k9 := K _ _ _ _ _ hB
    dsimp only at k9
    rw [hnx] at k9
    exact lv_iushr C.1 C.2.1 hd rfl k9
  · cases hn
theorem am_w_ladd (C : CallFix p m c cc nL s args Tb own) (hd : decode cc pc = .ok (.ladd, 1)) (hnx : pcs (j + 1) = pc + 1) (hn : am_l2 st (fun x y r => some (j + 1, lv, .long (x + y) :: r, h)) = some X) (hB : am_B D cl tys b c0 L xs s h0 nL h lv H locs ls cells slots) (K : am_K p l e R s m args below meth c Q D cl tys b c0 L xs h0 nL pcs X) : W p l e R s m args below meth c H locs cells slots Q (F0 m pc ls (st.map (am_r b c0))) := by
  unfold am_l2 at hn
  split at hn
  · rename_i y x r
    cases hn
    have k9 := K _ _ _ _ _ hB
    dsimp only at k9
    rw [hnx] at k9
    exact lv_ladd C.1 C.2.1 hd k9
  · cases hn
theorem am_w_lsub (C : CallFix p m c cc nL s args Tb own) (hd : decode cc pc = .ok (.lsub, 1)) (hnx : pcs (j + 1) = pc + 1) (hn : am_l2 st (fun x y r => some (j + 1, lv, .long (x - y) :: r, h)) = some X) (hB : am_B D cl tys b c0 L xs s h0 nL h lv H locs ls cells slots) (K : am_K p l e R s m args below meth c Q D cl tys b c0 L xs h0 nL pcs X) : W p l e R s m args below meth c H locs cells slots Q (F0 m pc ls (st.map (am_r b c0))) := by
  unfold am_l2 at hn
  split at hn
  · rename_i y x r
    cases hn
    have k9 := K _ _ _ _ _ hB
    dsimp only at k9
    rw [hnx] at k9
    exact lv_lsub C.1 C.2.1 hd k9
  · cases hn
theorem am_w_lmul (C : CallFix p m c cc nL s args Tb own) (hd : decode cc pc = .ok (.lmul, 1)) (hnx : pcs (j + 1) = pc + 1) (hn : am_l2 st (fun x y r => some (j + 1, lv, .long (x * y) :: r, h)) = some X) (hB : am_B D cl tys b c0 L xs s h0 nL h lv H locs ls cells slots) (K : am_K p l e R s m args below meth c Q D cl tys b c0 L xs h0 nL pcs X) : W p l e R s m args below meth c H locs cells slots Q (F0 m pc ls (st.map (am_r b c0))) := by
  unfold am_l2 at hn
  split at hn
  · rename_i y x r
    cases hn
    have k9 := K _ _ _ _ _ hB
    dsimp only at k9
    rw [hnx] at k9
    exact lv_lmul C.1 C.2.1 hd k9
  · cases hn
theorem am_w_land (C : CallFix p m c cc nL s args Tb own) (hd : decode cc pc = .ok (.land, 1)) (hnx : pcs (j + 1) = pc + 1) (hn : am_l2 st (fun x y r => some (j + 1, lv, .long (x &&& y) :: r, h)) = some X) (hB : am_B D cl tys b c0 L xs s h0 nL h lv H locs ls cells slots) (K : am_K p l e R s m args below meth c Q D cl tys b c0 L xs h0 nL pcs X) : W p l e R s m args below meth c H locs cells slots Q (F0 m pc ls (st.map (am_r b c0))) := by
  unfold am_l2 at hn
  split at hn
  · rename_i y x r
    cases hn
    have k9 := K _ _ _ _ _ hB
    dsimp only at k9
    rw [hnx] at k9
    exact lv_land C.1 C.2.1 hd k9
  · cases hn
theorem am_w_lor (C : CallFix p m c cc nL s args Tb own) (hd : decode cc pc = .ok (.lor, 1)) (hnx : pcs (j + 1) = pc + 1) (hn : am_l2 st (fun x y r => some (j + 1, lv, .long (x ||| y) :: r, h)) = some X) (hB : am_B D cl tys b c0 L xs s h0 nL h lv H locs ls cells slots) (K : am_K p l e R s m args below meth c Q D cl tys b c0 L xs h0 nL pcs X) : W p l e R s m args below meth c H locs cells slots Q (F0 m pc ls (st.map (am_r b c0))) := by
  unfold am_l2 at hn
  split at hn
  · rename_i y x r
    cases hn
    have k9 := K _ _ _ _ _ hB
    dsimp only at k9
    rw [hnx] at k9
    exact lv_lor C.1 C.2.1 hd k9
  · cases hn
theorem am_w_lxor (C : CallFix p m c cc nL s args Tb own) (hd : decode cc pc = .ok (.lxor, 1)) (hnx : pcs (j + 1) = pc + 1) (hn : am_l2 st (fun x y r => some (j + 1, lv, .long (x ^^^ y) :: r, h)) = some X) (hB : am_B D cl tys b c0 L xs s h0 nL h lv H locs ls cells slots) (K : am_K p l e R s m args below meth c Q D cl tys b c0 L xs h0 nL pcs X) : W p l e R s m args below meth c H locs cells slots Q (F0 m pc ls (st.map (am_r b c0))) := by
  unfold am_l2 at hn
  split at hn
  · rename_i y x r
    cases hn
    have k9 := K _ _ _ _ _ hB
    dsimp only at k9
    rw [hnx] at k9
    exact lv_lxor C.1 C.2.1 hd k9
  · cases hn
theorem am_w_lshl (C : CallFix p m c cc nL s args Tb own) (hd : decode cc pc = .ok (.lshl, 1)) (hnx : pcs (j + 1) = pc + 1) (hn : am_li st (fun x y r => some (j + 1, lv, .long (x <<< (y.toInt64 &&& 63)) :: r, h)) = some X) (hB : am_B D cl tys b c0 L xs s h0 nL h lv H locs ls cells slots) (K : am_K p l e R s m args below meth c Q D cl tys b c0 L xs h0 nL pcs X) : W p l e R s m args below meth c H locs cells slots Q (F0 m pc ls (st.map (am_r b c0))) := by
  unfold am_li at hn
  split at hn
  · rename_i y x r
    cases hn
    have k9 := K _ _ _ _ _ hB
    dsimp only at k9
    rw [hnx] at k9
    exact lv_lshl C.1 C.2.1 hd rfl k9
  · cases hn
theorem am_w_lshr (C : CallFix p m c cc nL s args Tb own) (hd : decode cc pc = .ok (.lshr, 1)) (hnx : pcs (j + 1) = pc + 1) (hn : am_li st (fun x y r => some (j + 1, lv, .long (x >>> (y.toInt64 &&& 63)) :: r, h)) = some X) (hB : am_B D cl tys b c0 L xs s h0 nL h lv H locs ls cells slots) (K : am_K p l e R s m args below meth c Q D cl tys b c0 L xs h0 nL pcs X) : W p l e R s m args below meth c H locs cells slots Q (F0 m pc ls (st.map (am_r b c0))) := by
  unfold am_li at hn
  split at hn
  · rename_i y x r
    cases hn
    have k9 := K _ _ _ _ _ hB
    dsimp only at k9
    rw [hnx] at k9
    exact lv_lshr C.1 C.2.1 hd rfl k9
  · cases hn
theorem am_w_lushr (C : CallFix p m c cc nL s args Tb own) (hd : decode cc pc = .ok (.lushr, 1)) (hnx : pcs (j + 1) = pc + 1) (hn : am_li st (fun x y r => some (j + 1, lv, .long (x.toUInt64 >>> (y.toInt64.toUInt64 &&& Int64.toUInt64 63)).toInt64 :: r, h)) = some X) (hB : am_B D cl tys b c0 L xs s h0 nL h lv H locs ls cells slots) (K : am_K p l e R s m args below meth c Q D cl tys b c0 L xs h0 nL pcs X) : W p l e R s m args below meth c H locs cells slots Q (F0 m pc ls (st.map (am_r b c0))) := by
  unfold am_li at hn
  split at hn
  · rename_i y x r
    cases hn
    have k9 := K _ _ _ _ _ hB
    dsimp only at k9
    rw [hnx] at k9
    exact lv_lushr C.1 C.2.1 hd rfl k9
  · cases hn
theorem am_w_lcmp (C : CallFix p m c cc nL s args Tb own) (hd : decode cc pc = .ok (.lcmp, 1)) (hnx : pcs (j + 1) = pc + 1) (hn : am_l2 st (fun x y r => some (j + 1, lv, .int (lg_cmp x y) :: r, h)) = some X) (hB : am_B D cl tys b c0 L xs s h0 nL h lv H locs ls cells slots) (K : am_K p l e R s m args below meth c Q D cl tys b c0 L xs h0 nL pcs X) : W p l e R s m args below meth c H locs cells slots Q (F0 m pc ls (st.map (am_r b c0))) := by
  unfold am_l2 at hn
  split at hn
  · rename_i y x r
    cases hn
    have k9 := K _ _ _ _ _ hB
    dsimp only at k9
    rw [hnx] at k9
    exact W.lcmp C.1 C.2.1 hd k9
  · cases hn
theorem am_w_i2l (C : CallFix p m c cc nL s args Tb own) (hd : decode cc pc = .ok (.i2l, 1)) (hnx : pcs (j + 1) = pc + 1) (hn : am_i1 st (fun x r => some (j + 1, lv, .long x.toInt64 :: r, h)) = some X) (hB : am_B D cl tys b c0 L xs s h0 nL h lv H locs ls cells slots) (K : am_K p l e R s m args below meth c Q D cl tys b c0 L xs h0 nL pcs X) : W p l e R s m args below meth c H locs cells slots Q (F0 m pc ls (st.map (am_r b c0))) := by
  unfold am_i1 at hn
  split at hn
  · rename_i x r
    cases hn
    have k9 := K _ _ _ _ _ hB
    dsimp only at k9
    rw [hnx] at k9
    exact lv_i2l C.1 C.2.1 hd rfl k9
  · cases hn
theorem am_w_l2i (C : CallFix p m c cc nL s args Tb own) (hd : decode cc pc = .ok (.l2i, 1)) (hnx : pcs (j + 1) = pc + 1) (hn : am_l1 st (fun x r => some (j + 1, lv, .int x.toInt32 :: r, h)) = some X) (hB : am_B D cl tys b c0 L xs s h0 nL h lv H locs ls cells slots) (K : am_K p l e R s m args below meth c Q D cl tys b c0 L xs h0 nL pcs X) : W p l e R s m args below meth c H locs cells slots Q (F0 m pc ls (st.map (am_r b c0))) := by
  unfold am_l1 at hn
  split at hn
  · rename_i x r
    cases hn
    have k9 := K _ _ _ _ _ hB
    dsimp only at k9
    rw [hnx] at k9
    exact lv_l2i C.1 C.2.1 hd rfl k9
  · cases hn
theorem am_w_i2b (C : CallFix p m c cc nL s args Tb own) (hd : decode cc pc = .ok (.i2b, 1)) (hnx : pcs (j + 1) = pc + 1) (hn : am_i1 st (fun x r => some (j + 1, lv, .int x.toInt8.toInt32 :: r, h)) = some X) (hB : am_B D cl tys b c0 L xs s h0 nL h lv H locs ls cells slots) (K : am_K p l e R s m args below meth c Q D cl tys b c0 L xs h0 nL pcs X) : W p l e R s m args below meth c H locs cells slots Q (F0 m pc ls (st.map (am_r b c0))) := by
  unfold am_i1 at hn
  split at hn
  · rename_i x r
    cases hn
    have k9 := K _ _ _ _ _ hB
    dsimp only at k9
    rw [hnx] at k9
    exact lv_i2b C.1 C.2.1 hd rfl k9
  · cases hn
theorem am_w_dup (C : CallFix p m c cc nL s args Tb own) (hd : decode cc pc = .ok (.dup, 1)) (hnx : pcs (j + 1) = pc + 1) (hn : am_v1 st (fun v r => if v.category = 1 then some (j + 1, lv, v :: v :: r, h) else none) = some X) (hB : am_B D cl tys b c0 L xs s h0 nL h lv H locs ls cells slots) (K : am_K p l e R s m args below meth c Q D cl tys b c0 L xs h0 nL pcs X) : W p l e R s m args below meth c H locs cells slots Q (F0 m pc ls (st.map (am_r b c0))) := by
  unfold am_v1 at hn
  split at hn
  · rename_i v r
    dsimp only at hn
    split at hn
    · rename_i hv
      cases hn
      have k9 := K _ _ _ _ _ hB
      dsimp only at k9
      rw [hnx] at k9
      exact lv_dup C.1 C.2.1 hd ((am_r_cat b c0 v).trans hv) k9
    · cases hn
  · cases hn
theorem am_w_pop (C : CallFix p m c cc nL s args Tb own) (hd : decode cc pc = .ok (.pop, 1)) (hnx : pcs (j + 1) = pc + 1) (hn : am_v1 st (fun v r => if v.category = 1 then some (j + 1, lv, r, h) else none) = some X) (hB : am_B D cl tys b c0 L xs s h0 nL h lv H locs ls cells slots) (K : am_K p l e R s m args below meth c Q D cl tys b c0 L xs h0 nL pcs X) : W p l e R s m args below meth c H locs cells slots Q (F0 m pc ls (st.map (am_r b c0))) := by
  unfold am_v1 at hn
  split at hn
  · rename_i v r
    dsimp only at hn
    split at hn
    · rename_i hv
      cases hn
      have k9 := K _ _ _ _ _ hB
      dsimp only at k9
      rw [hnx] at k9
      exact lv_pop C.1 C.2.1 hd ((am_r_cat b c0 v).trans hv) k9
    · cases hn
  · cases hn
theorem am_w_dup2 (C : CallFix p m c cc nL s args Tb own) (hd : decode cc pc = .ok (.dup2, 1)) (hnx : pcs (j + 1) = pc + 1) (hn : am_v2 st (fun v w r => if v.category = 1 ∧ w.category = 1 then some (j + 1, lv, v :: w :: v :: w :: r, h) else none) = some X) (hB : am_B D cl tys b c0 L xs s h0 nL h lv H locs ls cells slots) (K : am_K p l e R s m args below meth c Q D cl tys b c0 L xs h0 nL pcs X) : W p l e R s m args below meth c H locs cells slots Q (F0 m pc ls (st.map (am_r b c0))) := by
  unfold am_v2 at hn
  split at hn
  · rename_i v w r
    dsimp only at hn
    split at hn
    · rename_i hv
      cases hn
      have k9 := K _ _ _ _ _ hB
      dsimp only at k9
      rw [hnx] at k9
      exact lv_dup2_11 C.1 C.2.1 hd ((am_r_cat b c0 v).trans hv.1) ((am_r_cat b c0 w).trans hv.2) k9
    · cases hn
  · cases hn
theorem am_w_dup_x1 (C : CallFix p m c cc nL s args Tb own) (hd : decode cc pc = .ok (.dup_x1, 1)) (hnx : pcs (j + 1) = pc + 1) (hn : am_v2 st (fun v w r => if v.category = 1 ∧ w.category = 1 then some (j + 1, lv, v :: w :: v :: r, h) else none) = some X) (hB : am_B D cl tys b c0 L xs s h0 nL h lv H locs ls cells slots) (K : am_K p l e R s m args below meth c Q D cl tys b c0 L xs h0 nL pcs X) : W p l e R s m args below meth c H locs cells slots Q (F0 m pc ls (st.map (am_r b c0))) := by
  unfold am_v2 at hn
  split at hn
  · rename_i v w r
    dsimp only at hn
    split at hn
    · rename_i hv
      cases hn
      have k9 := K _ _ _ _ _ hB
      dsimp only at k9
      rw [hnx] at k9
      exact lv_dup_x1 C.1 C.2.1 hd ((am_r_cat b c0 v).trans hv.1) ((am_r_cat b c0 w).trans hv.2) k9
    · cases hn
  · cases hn
theorem am_w_ifCond {cd : ClassFile.Cond} {off : Int} {tg : Nat} (C : CallFix p m c cc nL s args Tb own) (hd : decode cc pc = .ok (.ifCond cd off, 3)) (hnx : pcs (j + 1) = pc + 3) (ht : (pc : Int) + off = (pcs tg : Int)) (hn : am_i1 st (fun x r => am_br cd x 0 (some (tg, lv, r, h)) (some (j + 1, lv, r, h))) = some X) (hB : am_B D cl tys b c0 L xs s h0 nL h lv H locs ls cells slots) (K : am_K p l e R s m args below meth c Q D cl tys b c0 L xs h0 nL pcs X) : W p l e R s m args below meth c H locs cells slots Q (F0 m pc ls (st.map (am_r b c0))) := by
  unfold am_i1 at hn
  split at hn
  · rename_i x r
    unfold am_br at hn
    cases cd <;> dsimp only at hn
    · split at hn <;> rename_i hc
      · cases hn
        have k9 := K _ _ _ _ _ hB
        exact lv_if_eq C.1 C.2.1 hd ht (fun _ => k9) (fun q => absurd hc q)
      · cases hn
        have k9 := K _ _ _ _ _ hB
        dsimp only at k9
        rw [hnx] at k9
        exact lv_if_eq C.1 C.2.1 hd ht (fun q => absurd q hc) (fun _ => k9)
    · split at hn <;> rename_i hc
      · cases hn
        have k9 := K _ _ _ _ _ hB
        dsimp only at k9
        rw [hnx] at k9
        exact lv_if_ne C.1 C.2.1 hd ht (fun q => absurd hc q) (fun _ => k9)
      · cases hn
        have k9 := K _ _ _ _ _ hB
        exact lv_if_ne C.1 C.2.1 hd ht (fun _ => k9) (fun q => absurd q hc)
    · split at hn <;> rename_i hc
      · cases hn
        have k9 := K _ _ _ _ _ hB
        exact lv_if_lt C.1 C.2.1 hd ht (fun _ => k9) (fun q => absurd hc q)
      · cases hn
        have k9 := K _ _ _ _ _ hB
        dsimp only at k9
        rw [hnx] at k9
        exact lv_if_lt C.1 C.2.1 hd ht (fun q => absurd q hc) (fun _ => k9)
    · split at hn <;> rename_i hc
      · cases hn
        have k9 := K _ _ _ _ _ hB
        exact lv_if_ge C.1 C.2.1 hd ht (fun _ => k9) (fun q => absurd hc q)
      · cases hn
        have k9 := K _ _ _ _ _ hB
        dsimp only at k9
        rw [hnx] at k9
        exact lv_if_ge C.1 C.2.1 hd ht (fun q => absurd q hc) (fun _ => k9)
    · split at hn <;> rename_i hc
      · cases hn
        have k9 := K _ _ _ _ _ hB
        exact lv_if_gt C.1 C.2.1 hd ht (fun _ => k9) (fun q => absurd hc q)
      · cases hn
        have k9 := K _ _ _ _ _ hB
        dsimp only at k9
        rw [hnx] at k9
        exact lv_if_gt C.1 C.2.1 hd ht (fun q => absurd q hc) (fun _ => k9)
    · split at hn <;> rename_i hc
      · cases hn
        have k9 := K _ _ _ _ _ hB
        exact lv_if_le C.1 C.2.1 hd ht (fun _ => k9) (fun q => absurd hc q)
      · cases hn
        have k9 := K _ _ _ _ _ hB
        dsimp only at k9
        rw [hnx] at k9
        exact lv_if_le C.1 C.2.1 hd ht (fun q => absurd q hc) (fun _ => k9)
  · cases hn
theorem am_w_if_icmp {cd : ClassFile.Cond} {off : Int} {tg : Nat} (C : CallFix p m c cc nL s args Tb own) (hd : decode cc pc = .ok (.if_icmp cd off, 3)) (hnx : pcs (j + 1) = pc + 3) (ht : (pc : Int) + off = (pcs tg : Int)) (hn : am_i2 st (fun x y r => am_br cd x y (some (tg, lv, r, h)) (some (j + 1, lv, r, h))) = some X) (hB : am_B D cl tys b c0 L xs s h0 nL h lv H locs ls cells slots) (K : am_K p l e R s m args below meth c Q D cl tys b c0 L xs h0 nL pcs X) : W p l e R s m args below meth c H locs cells slots Q (F0 m pc ls (st.map (am_r b c0))) := by
  unfold am_i2 at hn
  split at hn
  · rename_i y x r
    unfold am_br at hn
    cases cd <;> dsimp only at hn
    · split at hn <;> rename_i hc
      · cases hn
        have k9 := K _ _ _ _ _ hB
        exact lv_icmp_eq C.1 C.2.1 hd ht (fun _ => k9) (fun q => absurd hc q)
      · cases hn
        have k9 := K _ _ _ _ _ hB
        dsimp only at k9
        rw [hnx] at k9
        exact lv_icmp_eq C.1 C.2.1 hd ht (fun q => absurd q hc) (fun _ => k9)
    · split at hn <;> rename_i hc
      · cases hn
        have k9 := K _ _ _ _ _ hB
        dsimp only at k9
        rw [hnx] at k9
        exact lv_icmp_ne C.1 C.2.1 hd ht (fun q => absurd hc q) (fun _ => k9)
      · cases hn
        have k9 := K _ _ _ _ _ hB
        exact lv_icmp_ne C.1 C.2.1 hd ht (fun _ => k9) (fun q => absurd q hc)
    · split at hn <;> rename_i hc
      · cases hn
        have k9 := K _ _ _ _ _ hB
        exact lv_icmp_lt C.1 C.2.1 hd ht (fun _ => k9) (fun q => absurd hc q)
      · cases hn
        have k9 := K _ _ _ _ _ hB
        dsimp only at k9
        rw [hnx] at k9
        exact lv_icmp_lt C.1 C.2.1 hd ht (fun q => absurd q hc) (fun _ => k9)
    · split at hn <;> rename_i hc
      · cases hn
        have k9 := K _ _ _ _ _ hB
        exact lv_icmp_ge C.1 C.2.1 hd ht (fun _ => k9) (fun q => absurd hc q)
      · cases hn
        have k9 := K _ _ _ _ _ hB
        dsimp only at k9
        rw [hnx] at k9
        exact lv_icmp_ge C.1 C.2.1 hd ht (fun q => absurd q hc) (fun _ => k9)
    · split at hn <;> rename_i hc
      · cases hn
        have k9 := K _ _ _ _ _ hB
        exact lv_icmp_gt C.1 C.2.1 hd ht (fun _ => k9) (fun q => absurd hc q)
      · cases hn
        have k9 := K _ _ _ _ _ hB
        dsimp only at k9
        rw [hnx] at k9
        exact lv_icmp_gt C.1 C.2.1 hd ht (fun q => absurd q hc) (fun _ => k9)
    · split at hn <;> rename_i hc
      · cases hn
        have k9 := K _ _ _ _ _ hB
        exact lv_icmp_le C.1 C.2.1 hd ht (fun _ => k9) (fun q => absurd hc q)
      · cases hn
        have k9 := K _ _ _ _ _ hB
        dsimp only at k9
        rw [hnx] at k9
        exact lv_icmp_le C.1 C.2.1 hd ht (fun q => absurd q hc) (fun _ => k9)
  · cases hn
theorem am_w_goto {off : Int} {tg : Nat} (C : CallFix p m c cc nL s args Tb own) (hd : decode cc pc = .ok (.goto off, 3)) (ht : (pc : Int) + off = (pcs tg : Int)) (hn : some (tg, lv, st, h) = some X) (hB : am_B D cl tys b c0 L xs s h0 nL h lv H locs ls cells slots) (K : am_K p l e R s m args below meth c Q D cl tys b c0 L xs h0 nL pcs X) : W p l e R s m args below meth c H locs cells slots Q (F0 m pc ls (st.map (am_r b c0))) := by
  cases hn
  exact lv_goto C.1 C.2.1 hd ht (K _ _ _ _ _ hB)
theorem am_w_ifnull {off : Int} {tg : Nat} (C : CallFix p m c cc nL s args Tb own) (hd : decode cc pc = .ok (.ifnull off, 3)) (hnx : pcs (j + 1) = pc + 3) (ht : (pc : Int) + off = (pcs tg : Int)) (hn : am_nl st (fun r => some (tg, lv, r, h)) (fun r => some (j + 1, lv, r, h)) = some X) (hB : am_B D cl tys b c0 L xs s h0 nL h lv H locs ls cells slots) (K : am_K p l e R s m args below meth c Q D cl tys b c0 L xs h0 nL pcs X) : W p l e R s m args below meth c H locs cells slots Q (F0 m pc ls (st.map (am_r b c0))) := by
  unfold am_nl at hn
  split at hn
  · cases hn
    exact lv_ifnullN C.1 C.2.1 hd ht (K _ _ _ _ _ hB)
  · cases hn
    have k9 := K _ _ _ _ _ hB
    dsimp only at k9
    rw [hnx] at k9
    exact lv_ifnull C.1 C.2.1 hd k9
  · cases hn
theorem am_w_ifnonnull {off : Int} {tg : Nat} (C : CallFix p m c cc nL s args Tb own) (hd : decode cc pc = .ok (.ifnonnull off, 3)) (hnx : pcs (j + 1) = pc + 3) (ht : (pc : Int) + off = (pcs tg : Int)) (hn : am_nl st (fun r => some (j + 1, lv, r, h)) (fun r => some (tg, lv, r, h)) = some X) (hB : am_B D cl tys b c0 L xs s h0 nL h lv H locs ls cells slots) (K : am_K p l e R s m args below meth c Q D cl tys b c0 L xs h0 nL pcs X) : W p l e R s m args below meth c H locs cells slots Q (F0 m pc ls (st.map (am_r b c0))) := by
  unfold am_nl at hn
  split at hn
  · cases hn
    have k9 := K _ _ _ _ _ hB
    dsimp only at k9
    rw [hnx] at k9
    exact lv_ifnonnullN C.1 C.2.1 hd k9
  · cases hn
    exact lv_ifnonnull C.1 C.2.1 hd ht (K _ _ _ _ _ hB)
  · cases hn
theorem am_w_tableswitch {dflt lo hi : Int} {offs : Array Int} {len a : Nat} {tg : List Nat} (C : CallFix p m c cc nL s args Tb own) (hd : decode cc pc = .ok (.tableswitch dflt lo hi offs, len)) (h1 : (pc : Int) + dflt = (pcs a : Int)) (h2 : ∀ (k t : Nat), tg[k]? = some t → ∃ o : Int, offs[k]? = some o ∧ (pc : Int) + o = (pcs t : Int)) (hn : am_i1 st (fun x r => if x.toInt < lo ∨ hi < x.toInt then some (a, lv, r, h) else am_tg tg (x.toInt - lo).toNat (fun t => some (t, lv, r, h))) = some X) (hB : am_B D cl tys b c0 L xs s h0 nL h lv H locs ls cells slots) (K : am_K p l e R s m args below meth c Q D cl tys b c0 L xs h0 nL pcs X) : W p l e R s m args below meth c H locs cells slots Q (F0 m pc ls (st.map (am_r b c0))) := by
  unfold am_i1 at hn
  split at hn
  · rename_i x r
    dsimp only at hn
    split at hn
    · rename_i hc
      cases hn
      exact lv_tableOut C.1 C.2.1 hd hc h1 (K _ _ _ _ _ hB)
    · rename_i hc
      unfold am_tg at hn
      split at hn
      · rename_i t ht
        cases hn
        obtain ⟨o, ho, hp⟩ := h2 _ _ ht
        exact lv_tableIn C.1 C.2.1 hd (fun q => hc (Or.inl q)) (fun q => hc (Or.inr q)) ho hp (K _ _ _ _ _ hB)
      · cases hn
  · cases hn
end AMO
