theorem mt_Run_ableThreads : am_MT[57]? = some m_Run_ableThreads := rfl
theorem c_Run_ableThreads_0 : c_Run_ableThreads[0]? = some (0, 1, .iconst 0, 0, 0, 0, 0, 0, []) := Eq.trans rfl rfl
theorem c_Run_ableThreads_1 : c_Run_ableThreads[1]? = some (1, 1, .istore_n 1, 1, 0, 0, 0, 0, []) := Eq.trans rfl rfl
theorem c_Run_ableThreads_2 : c_Run_ableThreads[2]? = some (2, 1, .iconst 0, 0, 0, 0, 0, 0, []) := Eq.trans rfl rfl
theorem c_Run_ableThreads_3 : c_Run_ableThreads[3]? = some (3, 1, .istore_n 2, 2, 0, 0, 0, 0, []) := Eq.trans rfl rfl
theorem c_Run_ableThreads_4 : c_Run_ableThreads[4]? = some (4, 1, .iload_n 2, 2, 0, 0, 0, 0, []) := Eq.trans rfl rfl
theorem c_Run_ableThreads_5 : c_Run_ableThreads[5]? = some (5, 1, .aload_n 0, 0, 0, 0, 0, 0, []) := Eq.trans rfl rfl
theorem c_Run_ableThreads_6 : c_Run_ableThreads[6]? = some (6, 3, .getfield 60, 3, 8, 0, 0, 214, []) := Eq.trans rfl rfl
theorem c_Run_ableThreads_7 : c_Run_ableThreads[7]? = some (9, 3, .getfield 105, 2, 0, 0, 0, 145, []) := Eq.trans rfl rfl
theorem c_Run_ableThreads_8 : c_Run_ableThreads[8]? = some (12, 3, .if_icmp .ge 23, 21, 0, 0, 0, 0, []) := Eq.trans rfl rfl
theorem c_Run_ableThreads_9 : c_Run_ableThreads[9]? = some (15, 1, .aload_n 0, 0, 0, 0, 0, 0, []) := Eq.trans rfl rfl
theorem c_Run_ableThreads_10 : c_Run_ableThreads[10]? = some (16, 1, .iload_n 2, 2, 0, 0, 0, 0, []) := Eq.trans rfl rfl
theorem c_Run_ableThreads_11 : c_Run_ableThreads[11]? = some (17, 3, .invokevirtual 108, 40, 2, 3, 0, 542, []) := Eq.trans rfl rfl
theorem c_Run_ableThreads_12 : c_Run_ableThreads[12]? = some (20, 3, .ifCond .ne 9, 19, 0, 0, 0, 0, []) := Eq.trans rfl rfl
theorem c_Run_ableThreads_13 : c_Run_ableThreads[13]? = some (23, 1, .iload_n 1, 1, 0, 0, 0, 0, []) := Eq.trans rfl rfl
theorem c_Run_ableThreads_14 : c_Run_ableThreads[14]? = some (24, 1, .iconst 1, 0, 0, 0, 0, 0, []) := Eq.trans rfl rfl
theorem c_Run_ableThreads_15 : c_Run_ableThreads[15]? = some (25, 1, .iload_n 2, 2, 0, 0, 0, 0, []) := Eq.trans rfl rfl
theorem c_Run_ableThreads_16 : c_Run_ableThreads[16]? = some (26, 1, .ishl, 0, 0, 0, 0, 0, []) := Eq.trans rfl rfl
theorem c_Run_ableThreads_17 : c_Run_ableThreads[17]? = some (27, 1, .ior, 0, 0, 0, 0, 0, []) := Eq.trans rfl rfl
theorem c_Run_ableThreads_18 : c_Run_ableThreads[18]? = some (28, 1, .istore_n 1, 1, 0, 0, 0, 0, []) := Eq.trans rfl rfl
theorem c_Run_ableThreads_19 : c_Run_ableThreads[19]? = some (29, 3, .iinc 2 1, 0, 0, 0, 0, 0, []) := Eq.trans rfl rfl
theorem c_Run_ableThreads_20 : c_Run_ableThreads[20]? = some (32, 3, .goto (-28), 4, 0, 0, 0, 0, []) := Eq.trans rfl rfl
theorem c_Run_ableThreads_21 : c_Run_ableThreads[21]? = some (35, 1, .iload_n 1, 1, 0, 0, 0, 0, []) := Eq.trans rfl rfl
theorem c_Run_ableThreads_22 : c_Run_ableThreads[22]? = some (36, 1, .ireturn, 0, 0, 0, 0, 0, []) := Eq.trans rfl rfl
theorem mt_Integer_bitCount : am_MT[58]? = some m_Integer_bitCount := rfl
theorem c_Integer_bitCount_0 : c_Integer_bitCount[0]? = some (0, 1, .iload_n 0, 0, 0, 0, 0, 0, []) := Eq.trans rfl rfl
theorem c_Integer_bitCount_1 : c_Integer_bitCount[1]? = some (1, 1, .iload_n 0, 0, 0, 0, 0, 0, []) := Eq.trans rfl rfl
theorem c_Integer_bitCount_2 : c_Integer_bitCount[2]? = some (2, 1, .iconst 1, 0, 0, 0, 0, 0, []) := Eq.trans rfl rfl
theorem c_Integer_bitCount_3 : c_Integer_bitCount[3]? = some (3, 1, .iushr, 0, 0, 0, 0, 0, []) := Eq.trans rfl rfl
theorem c_Integer_bitCount_4 : c_Integer_bitCount[4]? = some (4, 3, .ldc_w 265, 1431655765, 0, 0, 0, 546, []) := Eq.trans rfl rfl
theorem c_Integer_bitCount_5 : c_Integer_bitCount[5]? = some (7, 1, .iand, 0, 0, 0, 0, 0, []) := Eq.trans rfl rfl
theorem c_Integer_bitCount_6 : c_Integer_bitCount[6]? = some (8, 1, .isub, 0, 0, 0, 0, 0, []) := Eq.trans rfl rfl
theorem c_Integer_bitCount_7 : c_Integer_bitCount[7]? = some (9, 1, .istore_n 0, 0, 0, 0, 0, 0, []) := Eq.trans rfl rfl
theorem c_Integer_bitCount_8 : c_Integer_bitCount[8]? = some (10, 1, .iload_n 0, 0, 0, 0, 0, 0, []) := Eq.trans rfl rfl
theorem c_Integer_bitCount_9 : c_Integer_bitCount[9]? = some (11, 3, .ldc_w 266, 858993459, 0, 0, 0, 547, []) := Eq.trans rfl rfl
theorem c_Integer_bitCount_10 : c_Integer_bitCount[10]? = some (14, 1, .iand, 0, 0, 0, 0, 0, []) := Eq.trans rfl rfl
theorem c_Integer_bitCount_11 : c_Integer_bitCount[11]? = some (15, 1, .iload_n 0, 0, 0, 0, 0, 0, []) := Eq.trans rfl rfl
theorem c_Integer_bitCount_12 : c_Integer_bitCount[12]? = some (16, 1, .iconst 2, 0, 0, 0, 0, 0, []) := Eq.trans rfl rfl
theorem c_Integer_bitCount_13 : c_Integer_bitCount[13]? = some (17, 1, .iushr, 0, 0, 0, 0, 0, []) := Eq.trans rfl rfl
theorem c_Integer_bitCount_14 : c_Integer_bitCount[14]? = some (18, 3, .ldc_w 266, 858993459, 0, 0, 0, 547, []) := Eq.trans rfl rfl
theorem c_Integer_bitCount_15 : c_Integer_bitCount[15]? = some (21, 1, .iand, 0, 0, 0, 0, 0, []) := Eq.trans rfl rfl
theorem c_Integer_bitCount_16 : c_Integer_bitCount[16]? = some (22, 1, .iadd, 0, 0, 0, 0, 0, []) := Eq.trans rfl rfl
theorem c_Integer_bitCount_17 : c_Integer_bitCount[17]? = some (23, 1, .istore_n 0, 0, 0, 0, 0, 0, []) := Eq.trans rfl rfl
theorem c_Integer_bitCount_18 : c_Integer_bitCount[18]? = some (24, 1, .iload_n 0, 0, 0, 0, 0, 0, []) := Eq.trans rfl rfl
theorem c_Integer_bitCount_19 : c_Integer_bitCount[19]? = some (25, 1, .iload_n 0, 0, 0, 0, 0, 0, []) := Eq.trans rfl rfl
theorem c_Integer_bitCount_20 : c_Integer_bitCount[20]? = some (26, 1, .iconst 4, 0, 0, 0, 0, 0, []) := Eq.trans rfl rfl
theorem c_Integer_bitCount_21 : c_Integer_bitCount[21]? = some (27, 1, .iushr, 0, 0, 0, 0, 0, []) := Eq.trans rfl rfl
theorem c_Integer_bitCount_22 : c_Integer_bitCount[22]? = some (28, 1, .iadd, 0, 0, 0, 0, 0, []) := Eq.trans rfl rfl
theorem c_Integer_bitCount_23 : c_Integer_bitCount[23]? = some (29, 3, .ldc_w 267, 252645135, 0, 0, 0, 548, []) := Eq.trans rfl rfl
theorem c_Integer_bitCount_24 : c_Integer_bitCount[24]? = some (32, 1, .iand, 0, 0, 0, 0, 0, []) := Eq.trans rfl rfl
theorem c_Integer_bitCount_25 : c_Integer_bitCount[25]? = some (33, 1, .istore_n 0, 0, 0, 0, 0, 0, []) := Eq.trans rfl rfl
theorem c_Integer_bitCount_26 : c_Integer_bitCount[26]? = some (34, 1, .iload_n 0, 0, 0, 0, 0, 0, []) := Eq.trans rfl rfl
theorem c_Integer_bitCount_27 : c_Integer_bitCount[27]? = some (35, 1, .iload_n 0, 0, 0, 0, 0, 0, []) := Eq.trans rfl rfl
theorem c_Integer_bitCount_28 : c_Integer_bitCount[28]? = some (36, 2, .bipush 8, 0, 0, 0, 0, 0, []) := Eq.trans rfl rfl
theorem c_Integer_bitCount_29 : c_Integer_bitCount[29]? = some (38, 1, .iushr, 0, 0, 0, 0, 0, []) := Eq.trans rfl rfl
theorem c_Integer_bitCount_30 : c_Integer_bitCount[30]? = some (39, 1, .iadd, 0, 0, 0, 0, 0, []) := Eq.trans rfl rfl
theorem c_Integer_bitCount_31 : c_Integer_bitCount[31]? = some (40, 1, .istore_n 0, 0, 0, 0, 0, 0, []) := Eq.trans rfl rfl
theorem c_Integer_bitCount_32 : c_Integer_bitCount[32]? = some (41, 1, .iload_n 0, 0, 0, 0, 0, 0, []) := Eq.trans rfl rfl
theorem c_Integer_bitCount_33 : c_Integer_bitCount[33]? = some (42, 1, .iload_n 0, 0, 0, 0, 0, 0, []) := Eq.trans rfl rfl
theorem c_Integer_bitCount_34 : c_Integer_bitCount[34]? = some (43, 2, .bipush 16, 0, 0, 0, 0, 0, []) := Eq.trans rfl rfl
theorem c_Integer_bitCount_35 : c_Integer_bitCount[35]? = some (45, 1, .iushr, 0, 0, 0, 0, 0, []) := Eq.trans rfl rfl
theorem c_Integer_bitCount_36 : c_Integer_bitCount[36]? = some (46, 1, .iadd, 0, 0, 0, 0, 0, []) := Eq.trans rfl rfl
theorem c_Integer_bitCount_37 : c_Integer_bitCount[37]? = some (47, 1, .istore_n 0, 0, 0, 0, 0, 0, []) := Eq.trans rfl rfl
theorem c_Integer_bitCount_38 : c_Integer_bitCount[38]? = some (48, 1, .iload_n 0, 0, 0, 0, 0, 0, []) := Eq.trans rfl rfl
theorem c_Integer_bitCount_39 : c_Integer_bitCount[39]? = some (49, 2, .bipush 63, 0, 0, 0, 0, 0, []) := Eq.trans rfl rfl
theorem c_Integer_bitCount_40 : c_Integer_bitCount[40]? = some (51, 1, .iand, 0, 0, 0, 0, 0, []) := Eq.trans rfl rfl
theorem c_Integer_bitCount_41 : c_Integer_bitCount[41]? = some (52, 1, .ireturn, 0, 0, 0, 0, 0, []) := Eq.trans rfl rfl
theorem mt_TS_memberAt : am_MT[59]? = some m_TS_memberAt := rfl
theorem c_TS_memberAt_0 : c_TS_memberAt[0]? = some (0, 1, .iconst 0, 0, 0, 0, 0, 0, []) := Eq.trans rfl rfl
theorem c_TS_memberAt_1 : c_TS_memberAt[1]? = some (1, 1, .istore_n 2, 2, 0, 0, 0, 0, []) := Eq.trans rfl rfl
theorem c_TS_memberAt_2 : c_TS_memberAt[2]? = some (2, 1, .iconst 0, 0, 0, 0, 0, 0, []) := Eq.trans rfl rfl
theorem c_TS_memberAt_3 : c_TS_memberAt[3]? = some (3, 1, .istore_n 3, 3, 0, 0, 0, 0, []) := Eq.trans rfl rfl
theorem c_TS_memberAt_4 : c_TS_memberAt[4]? = some (4, 1, .iload_n 3, 3, 0, 0, 0, 0, []) := Eq.trans rfl rfl
theorem c_TS_memberAt_5 : c_TS_memberAt[5]? = some (5, 1, .iconst 3, 0, 0, 0, 0, 0, []) := Eq.trans rfl rfl
theorem c_TS_memberAt_6 : c_TS_memberAt[6]? = some (6, 3, .if_icmp .ge 27, 21, 0, 0, 0, 0, []) := Eq.trans rfl rfl
theorem c_TS_memberAt_7 : c_TS_memberAt[7]? = some (9, 1, .iload_n 0, 0, 0, 0, 0, 0, []) := Eq.trans rfl rfl
theorem c_TS_memberAt_8 : c_TS_memberAt[8]? = some (10, 1, .iload_n 3, 3, 0, 0, 0, 0, []) := Eq.trans rfl rfl
theorem c_TS_memberAt_9 : c_TS_memberAt[9]? = some (11, 1, .ishr, 0, 0, 0, 0, 0, []) := Eq.trans rfl rfl
theorem c_TS_memberAt_10 : c_TS_memberAt[10]? = some (12, 1, .iconst 1, 0, 0, 0, 0, 0, []) := Eq.trans rfl rfl
theorem c_TS_memberAt_11 : c_TS_memberAt[11]? = some (13, 1, .iand, 0, 0, 0, 0, 0, []) := Eq.trans rfl rfl
theorem c_TS_memberAt_12 : c_TS_memberAt[12]? = some (14, 3, .ifCond .eq 13, 19, 0, 0, 0, 0, []) := Eq.trans rfl rfl
theorem c_TS_memberAt_13 : c_TS_memberAt[13]? = some (17, 1, .iload_n 2, 2, 0, 0, 0, 0, []) := Eq.trans rfl rfl
theorem c_TS_memberAt_14 : c_TS_memberAt[14]? = some (18, 1, .iload_n 1, 1, 0, 0, 0, 0, []) := Eq.trans rfl rfl
theorem c_TS_memberAt_15 : c_TS_memberAt[15]? = some (19, 3, .if_icmp .ne 5, 18, 0, 0, 0, 0, []) := Eq.trans rfl rfl
theorem c_TS_memberAt_16 : c_TS_memberAt[16]? = some (22, 1, .iload_n 3, 3, 0, 0, 0, 0, []) := Eq.trans rfl rfl
theorem c_TS_memberAt_17 : c_TS_memberAt[17]? = some (23, 1, .ireturn, 0, 0, 0, 0, 0, []) := Eq.trans rfl rfl
theorem c_TS_memberAt_18 : c_TS_memberAt[18]? = some (24, 3, .iinc 2 1, 0, 0, 0, 0, 0, []) := Eq.trans rfl rfl
theorem c_TS_memberAt_19 : c_TS_memberAt[19]? = some (27, 3, .iinc 3 1, 0, 0, 0, 0, 0, []) := Eq.trans rfl rfl
theorem c_TS_memberAt_20 : c_TS_memberAt[20]? = some (30, 3, .goto (-26), 4, 0, 0, 0, 0, []) := Eq.trans rfl rfl
theorem c_TS_memberAt_21 : c_TS_memberAt[21]? = some (33, 1, .iconst (-1), 0, 0, 0, 0, 0, []) := Eq.trans rfl rfl
theorem c_TS_memberAt_22 : c_TS_memberAt[22]? = some (34, 1, .ireturn, 0, 0, 0, 0, 0, []) := Eq.trans rfl rfl
/-- the THREADS that have a STEP, a bit for each of the first k -/
def mb (F : Nat → Int → Int) (r : rn) : Nat → Int
  | 0 => 0
  | k + 1 => mb F r k + hv1 F r k * 2 ^ k
theorem mb_rg {F : Nat → Int → Int} {r : rn} : ∀ k : Nat, 0 ≤ mb F r k ∧ mb F r k < 2 ^ k := by
  intro k
  induction k with
  | zero => exact ⟨Int.le_refl _, (by decide : (0 : Int) < 1)⟩
  | succ k ih =>
    have e := hv1_01 (F := F) (r := r) (h := k)
    unfold mb
    have h2 : (2 : Int) ^ (k + 1) = 2 ^ k * 2 := Int.pow_succ 2 k
    rcases e with e | e
    · rw [e, h2]
      omega
    · rw [e, h2]
      omega
theorem or_all : ∀ j : Fin 3, ∀ a : Fin 8, a.val < 2 ^ j.val → iI (a.val : Int) ||| (iI 1 <<< (iI (j.val : Int) &&& 31)) = iI ((a.val : Int) + 2 ^ j.val) := by decide
theorem or_bit {j : Nat} {a : Int} (hj : j < 3) (ha : 0 ≤ a ∧ a < 2 ^ j) : iI a ||| (iI 1 <<< (iI (j : Int) &&& 31)) = iI (a + 2 ^ j) := by
  have h8 : (2 : Int) ^ j ≤ 4 := by
    have c : j = 0 ∨ j = 1 ∨ j = 2 := by omega
    rcases c with rfl | rfl | rfl <;> decide
  have hc : ((2 ^ j : Nat) : Int) = (2 : Int) ^ j := Int.natCast_pow 2 j
  have e := or_all ⟨j, hj⟩ ⟨a.toNat, by omega⟩ (by show a.toNat < 2 ^ j; omega)
  dsimp only at e
  rw [show ((a.toNat : Nat) : Int) = a by omega] at e
  exact e
set_option maxHeartbeats 8000000 in
theorem lp_able (d : Nat) (hd : 3 ≤ d) (h : am_H) (p q w : Nat) (n m : Int) (X : Nat → Int → Int) (S : Int → Int → Int) (H : ru_at h p q w n m X S) (N : Int) (A : Nat → Int → Int) (R : Nat → Int → Int → Int) (M : Int) (B : Nat → Int → Int) (K : Nat → Int → Int → Int) (E : en_at h p q w N A R M B K) (I : Nat → Int) (F : Nat → Int → Int) (hr : md_rg I F) (hT : ty_ok I F N A R) (hB : bo_ok I F M B K) (r : rn) (hv : rn_iv I F r) (ho : ru_ok r X S) : ∀ (k j : Nat), (j : Int) + k = I 1 → am_Go am_df am_MT d c_Run_ableThreads (4, [(2, .int (iI (j : Int))), (1, .int (iI (mb F r j))), (0, .ref p)], [], h) (fun r0 h' => r0 = some (.int (iI (mb F r (I 1).toNat))) ∧ h' = h) := by
  have H' := H
  obtain ⟨h0, hO, -⟩ := H'
  have bO := E.2.1.2.1
  have hI := hr.1
  intro k
  induction k with
  | zero =>
    intro j hj
    have e : (I 1).toNat = j := by omega
    have c : I 1 ≤ (j : Int) := by omega
    have eM := hB.1
    rw [e]
    refine am_go_of 10 [4, 11] _ c_Run_ableThreads_4 ?_
    simp (maxSteps := 2000000) (disch := omega) only [c_Run_ableThreads_0, c_Run_ableThreads_1, c_Run_ableThreads_2, c_Run_ableThreads_3, c_Run_ableThreads_4, c_Run_ableThreads_5, c_Run_ableThreads_6, c_Run_ableThreads_7, c_Run_ableThreads_8, c_Run_ableThreads_9, c_Run_ableThreads_10, c_Run_ableThreads_11, c_Run_ableThreads_12, c_Run_ableThreads_13, c_Run_ableThreads_14, c_Run_ableThreads_15, c_Run_ableThreads_16, c_Run_ableThreads_17, c_Run_ableThreads_18, c_Run_ableThreads_19, c_Run_ableThreads_20, c_Run_ableThreads_21, c_Run_ableThreads_22, sx_aload_n, sx_getfield, sx_goto, sx_iconst, sx_ifCond_ne, sx_if_icmp_ge, sx_iinc, sx_iload_n, sx_ior, sx_ireturn, sx_ishl, sx_istore_n, sx_zreturn, am_W_s, am_W_0, am_mm_some, List.mem_cons, or_false, false_or, or_self, or_true, true_or, reduceIte, if_false, if_true, am_o_some, am_o_none, am_o_bad, am_o_good, am_ldi_hit, am_ldi_miss, am_lda_hit, am_lda_miss, am_ldl_hit, am_ldl_miss, am_inc_eq, am_inc_hit, am_inc_miss, am_ob_hit, am_fd_0, am_fd_s, am_ai_hit, am_ab_3, am_al_hit, am_aq_4, am_al0_hit, am_put_1, am_put_2, am_put_put, am_up_hit, am_up_miss, am_s1_eq, am_s2_eq, am_fl_nil, am_fl_hit, am_fl_int, am_fl_ref, am_fl_long, am_fl_longx, am_fl2_nil, am_fl2_hit, am_fl2_hit1, am_fl2_int, am_fl2_ref, am_fl2_long, List.not_mem_nil, not_false_eq_true, ne_eq, Nat.reduceAdd, Nat.reduceEqDiff, Nat.zero_add, Nat.add_left_cancel_iff, List.set_cons_zero, List.set_cons_succ, List.length_cons, List.length_nil, Nat.reduceLT, am_ft_i, am_ft_r, am_ft_z, and_true, true_and, Option.toList_some, Option.toList_none, List.cons_append, List.nil_append, List.drop_succ_cons, List.drop_zero, iI_c, iI_b, iI_s, iI_n, iI_add, iI_sub, iI_mul, iI_neg, iI_nle, iI_ix, iI_eq0, iI_eq1, iI_lt0, iI_0lt, iI_le0, iI_0le, iI_eq, iI_lt, iI_le, iI_upd, iI_updZ, Int.reduceEq, Int.reduceLT, Int.reduceLE, Int.reduceNeg, Int.reduceNe, hO, bO, eM, c, ru_fs_len, ru_f0, ru_f1, ru_f2, ru_f3, ru_f4, ru_f5, ru_f6, ru_f7, ru_f8, ru_f9, ru_f10, ru_f11, ru_f12, ru_f13, ru_s0, ru_t2, ru_l2, ru_t3, ru_l3, ru_t4, ru_l4, ru_t5, ru_l5, ru_t10, ru_l10, ru_t11, ru_l11, ru_t12, ru_l12, ru_t13, ru_l13, ru_t14, ru_l14, ru_t15, ru_l15, lo_fs_len, lo_f0, lo_f1, lo_s0, ty_fs_len, ty_f0, ty_f1, ty_f2, ty_f3, ty_f4, ty_f5, ty_f6, ty_f7, ty_f8, ty_f9, ty_s0, ty_t1, ty_l1, ty_t2, ty_l2, ty_t3, ty_l3, ty_t11, ty_l11, ty_t12, ty_l12, ty_t13, ty_l13, ty_t14, ty_l14, bo_fs_len, bo_f0, bo_f1, bo_f2, bo_f3, bo_f4, bo_f5, bo_f6, bo_f7, bo_f8, bo_s0, rw_hit]
    all_goals (first | rfl | trivial | omega)
  | succ k ih =>
    intro j hj
    have c : ¬ I 1 ≤ (j : Int) := by omega
    have eM := hB.1
    have g := ih (j + 1) (by omega)
    rw [show (((j + 1 : Nat)) : Int) = (j : Int) + 1 by omega, show mb F r (j + 1) = mb F r j + hv1 F r j * 2 ^ j from rfl] at g
    refine am_go_of 10 [4, 11] _ c_Run_ableThreads_4 ?_
    simp (maxSteps := 2000000) (disch := omega) only [c_Run_ableThreads_0, c_Run_ableThreads_1, c_Run_ableThreads_2, c_Run_ableThreads_3, c_Run_ableThreads_4, c_Run_ableThreads_5, c_Run_ableThreads_6, c_Run_ableThreads_7, c_Run_ableThreads_8, c_Run_ableThreads_9, c_Run_ableThreads_10, c_Run_ableThreads_11, c_Run_ableThreads_12, c_Run_ableThreads_13, c_Run_ableThreads_14, c_Run_ableThreads_15, c_Run_ableThreads_16, c_Run_ableThreads_17, c_Run_ableThreads_18, c_Run_ableThreads_19, c_Run_ableThreads_20, c_Run_ableThreads_21, c_Run_ableThreads_22, sx_aload_n, sx_getfield, sx_goto, sx_iconst, sx_ifCond_ne, sx_if_icmp_ge, sx_iinc, sx_iload_n, sx_ior, sx_ireturn, sx_ishl, sx_istore_n, sx_zreturn, am_W_s, am_W_0, am_mm_some, List.mem_cons, or_false, false_or, or_self, or_true, true_or, reduceIte, if_false, if_true, am_o_some, am_o_none, am_o_bad, am_o_good, am_ldi_hit, am_ldi_miss, am_lda_hit, am_lda_miss, am_ldl_hit, am_ldl_miss, am_inc_eq, am_inc_hit, am_inc_miss, am_ob_hit, am_fd_0, am_fd_s, am_ai_hit, am_ab_3, am_al_hit, am_aq_4, am_al0_hit, am_put_1, am_put_2, am_put_put, am_up_hit, am_up_miss, am_s1_eq, am_s2_eq, am_fl_nil, am_fl_hit, am_fl_int, am_fl_ref, am_fl_long, am_fl_longx, am_fl2_nil, am_fl2_hit, am_fl2_hit1, am_fl2_int, am_fl2_ref, am_fl2_long, List.not_mem_nil, not_false_eq_true, ne_eq, Nat.reduceAdd, Nat.reduceEqDiff, Nat.zero_add, Nat.add_left_cancel_iff, List.set_cons_zero, List.set_cons_succ, List.length_cons, List.length_nil, Nat.reduceLT, am_ft_i, am_ft_r, am_ft_z, and_true, true_and, Option.toList_some, Option.toList_none, List.cons_append, List.nil_append, List.drop_succ_cons, List.drop_zero, iI_c, iI_b, iI_s, iI_n, iI_add, iI_sub, iI_mul, iI_neg, iI_nle, iI_ix, iI_eq0, iI_eq1, iI_lt0, iI_0lt, iI_le0, iI_0le, iI_eq, iI_lt, iI_le, iI_upd, iI_updZ, Int.reduceEq, Int.reduceLT, Int.reduceLE, Int.reduceNeg, Int.reduceNe, hO, bO, eM, c, ru_fs_len, ru_f0, ru_f1, ru_f2, ru_f3, ru_f4, ru_f5, ru_f6, ru_f7, ru_f8, ru_f9, ru_f10, ru_f11, ru_f12, ru_f13, ru_s0, ru_t2, ru_l2, ru_t3, ru_l3, ru_t4, ru_l4, ru_t5, ru_l5, ru_t10, ru_l10, ru_t11, ru_l11, ru_t12, ru_l12, ru_t13, ru_l13, ru_t14, ru_l14, ru_t15, ru_l15, lo_fs_len, lo_f0, lo_f1, lo_s0, ty_fs_len, ty_f0, ty_f1, ty_f2, ty_f3, ty_f4, ty_f5, ty_f6, ty_f7, ty_f8, ty_f9, ty_s0, ty_t1, ty_l1, ty_t2, ty_l2, ty_t3, ty_l3, ty_t11, ty_l11, ty_t12, ty_l12, ty_t13, ty_l13, ty_t14, ty_l14, bo_fs_len, bo_f0, bo_f1, bo_f2, bo_f3, bo_f4, bo_f5, bo_f6, bo_f7, bo_f8, bo_s0, rw_hit]
    refine am_go_call c_Run_ableThreads_11 (by decide) (by decide) (by first | (simp [am_can, am_kd, Value.category, hO]; done) | (simp [am_can, am_kd, am_b, am_c, Value.category, hO]; done) | (simp (disch := omega) [am_can, am_kd, am_b, am_c, Value.category, am_put_1, am_up_hit, am_up_miss, hO]; done)) ?_
    refine (ct_RendOf d (by omega) h p q w n m X S H N A R M B K E I F hr hT hB r hv ho (j : Int) ⟨by omega, by omega⟩).mono (fun r9 h1 hr9 => ?_)
    obtain ⟨rfl, rfl⟩ := hr9
    have hj3 : 0 ≤ (j : Int) ∧ (j : Int) < 3 := by omega
    have e1 := hv.1.2.1 (j : Int) hj3
    have e11 := hv.2.2.2.2.2.2.2.2.2.2.2.1 (j : Int) hj3
    have er : 0 ≤ sp_end F (vec r) (j : Int) ∧ sp_end F (vec r) (j : Int) ≤ 7 := by
      unfold sp_end
      rw [v_en hj3.1 hj3.2]
      split
      · omega
      · split <;> decide
    by_cases ce : hv1 F r (j : Int) = 1
    · have q2 := hv1_en hj3 ce
      have ee : sp_end F (vec r) (j : Int) = 0 := by
        unfold sp_end
        rw [v_en hj3.1 hj3.2, if_neg (fun q => q q2.1), if_neg (fun q => q q2.2)]
      have eo := or_bit (j := j) (by omega) (mb_rg (F := F) (r := r) j)
      rw [ce, Int.one_mul] at g
      rw [ee]
      refine am_go_of 20 [4, 11] _ c_Run_ableThreads_12 ?_
      simp (maxSteps := 2000000) (disch := omega) only [c_Run_ableThreads_0, c_Run_ableThreads_1, c_Run_ableThreads_2, c_Run_ableThreads_3, c_Run_ableThreads_4, c_Run_ableThreads_5, c_Run_ableThreads_6, c_Run_ableThreads_7, c_Run_ableThreads_8, c_Run_ableThreads_9, c_Run_ableThreads_10, c_Run_ableThreads_11, c_Run_ableThreads_12, c_Run_ableThreads_13, c_Run_ableThreads_14, c_Run_ableThreads_15, c_Run_ableThreads_16, c_Run_ableThreads_17, c_Run_ableThreads_18, c_Run_ableThreads_19, c_Run_ableThreads_20, c_Run_ableThreads_21, c_Run_ableThreads_22, sx_aload_n, sx_getfield, sx_goto, sx_iconst, sx_ifCond_ne, sx_if_icmp_ge, sx_iinc, sx_iload_n, sx_ior, sx_ireturn, sx_ishl, sx_istore_n, sx_zreturn, am_W_s, am_W_0, am_mm_some, List.mem_cons, or_false, false_or, or_self, or_true, true_or, reduceIte, if_false, if_true, am_o_some, am_o_none, am_o_bad, am_o_good, am_ldi_hit, am_ldi_miss, am_lda_hit, am_lda_miss, am_ldl_hit, am_ldl_miss, am_inc_eq, am_inc_hit, am_inc_miss, am_ob_hit, am_fd_0, am_fd_s, am_ai_hit, am_ab_3, am_al_hit, am_aq_4, am_al0_hit, am_put_1, am_put_2, am_put_put, am_up_hit, am_up_miss, am_s1_eq, am_s2_eq, am_fl_nil, am_fl_hit, am_fl_int, am_fl_ref, am_fl_long, am_fl_longx, am_fl2_nil, am_fl2_hit, am_fl2_hit1, am_fl2_int, am_fl2_ref, am_fl2_long, List.not_mem_nil, not_false_eq_true, ne_eq, Nat.reduceAdd, Nat.reduceEqDiff, Nat.zero_add, Nat.add_left_cancel_iff, List.set_cons_zero, List.set_cons_succ, List.length_cons, List.length_nil, Nat.reduceLT, am_ft_i, am_ft_r, am_ft_z, and_true, true_and, Option.toList_some, Option.toList_none, List.cons_append, List.nil_append, List.drop_succ_cons, List.drop_zero, iI_c, iI_b, iI_s, iI_n, iI_add, iI_sub, iI_mul, iI_neg, iI_nle, iI_ix, iI_eq0, iI_eq1, iI_lt0, iI_0lt, iI_le0, iI_0le, iI_eq, iI_lt, iI_le, iI_upd, iI_updZ, Int.reduceEq, Int.reduceLT, Int.reduceLE, Int.reduceNeg, Int.reduceNe, eo, ru_fs_len, ru_f0, ru_f1, ru_f2, ru_f3, ru_f4, ru_f5, ru_f6, ru_f7, ru_f8, ru_f9, ru_f10, ru_f11, ru_f12, ru_f13, ru_s0, ru_t2, ru_l2, ru_t3, ru_l3, ru_t4, ru_l4, ru_t5, ru_l5, ru_t10, ru_l10, ru_t11, ru_l11, ru_t12, ru_l12, ru_t13, ru_l13, ru_t14, ru_l14, ru_t15, ru_l15, lo_fs_len, lo_f0, lo_f1, lo_s0, ty_fs_len, ty_f0, ty_f1, ty_f2, ty_f3, ty_f4, ty_f5, ty_f6, ty_f7, ty_f8, ty_f9, ty_s0, ty_t1, ty_l1, ty_t2, ty_l2, ty_t3, ty_l3, ty_t11, ty_l11, ty_t12, ty_l12, ty_t13, ty_l13, ty_t14, ty_l14, bo_fs_len, bo_f0, bo_f1, bo_f2, bo_f3, bo_f4, bo_f5, bo_f6, bo_f7, bo_f8, bo_s0, rw_hit]
      exact g.lo (al_le_of (by simp) (by simp))
    · have e0 : hv1 F r (j : Int) = 0 := by
        have := hv1_01 (F := F) (r := r) (h := (j : Int))
        omega
      have en : ¬ sp_end F (vec r) (j : Int) = 0 := fun z => ce (by
        unfold sp_end at z
        rw [v_en hj3.1 hj3.2] at z
        unfold hv1 sp_has
        rw [v_en hj3.1 hj3.2]
        by_cases c1 : r_en r (j : Int) = 0
        · rw [if_neg (fun q => q c1)] at z
          by_cases c2 : sp_waits F (vec r) (j : Int) = -1
          · exact if_pos ⟨c1, c2⟩
          · rw [if_pos c2] at z
            exact absurd z (by decide)
        · rw [if_pos c1] at z
          exact absurd z c1)
      rw [e0, Int.zero_mul, Int.add_zero] at g
      refine am_go_of 20 [4, 11] _ c_Run_ableThreads_12 ?_
      simp (maxSteps := 2000000) (disch := omega) only [c_Run_ableThreads_0, c_Run_ableThreads_1, c_Run_ableThreads_2, c_Run_ableThreads_3, c_Run_ableThreads_4, c_Run_ableThreads_5, c_Run_ableThreads_6, c_Run_ableThreads_7, c_Run_ableThreads_8, c_Run_ableThreads_9, c_Run_ableThreads_10, c_Run_ableThreads_11, c_Run_ableThreads_12, c_Run_ableThreads_13, c_Run_ableThreads_14, c_Run_ableThreads_15, c_Run_ableThreads_16, c_Run_ableThreads_17, c_Run_ableThreads_18, c_Run_ableThreads_19, c_Run_ableThreads_20, c_Run_ableThreads_21, c_Run_ableThreads_22, sx_aload_n, sx_getfield, sx_goto, sx_iconst, sx_ifCond_ne, sx_if_icmp_ge, sx_iinc, sx_iload_n, sx_ior, sx_ireturn, sx_ishl, sx_istore_n, sx_zreturn, am_W_s, am_W_0, am_mm_some, List.mem_cons, or_false, false_or, or_self, or_true, true_or, reduceIte, if_false, if_true, am_o_some, am_o_none, am_o_bad, am_o_good, am_ldi_hit, am_ldi_miss, am_lda_hit, am_lda_miss, am_ldl_hit, am_ldl_miss, am_inc_eq, am_inc_hit, am_inc_miss, am_ob_hit, am_fd_0, am_fd_s, am_ai_hit, am_ab_3, am_al_hit, am_aq_4, am_al0_hit, am_put_1, am_put_2, am_put_put, am_up_hit, am_up_miss, am_s1_eq, am_s2_eq, am_fl_nil, am_fl_hit, am_fl_int, am_fl_ref, am_fl_long, am_fl_longx, am_fl2_nil, am_fl2_hit, am_fl2_hit1, am_fl2_int, am_fl2_ref, am_fl2_long, List.not_mem_nil, not_false_eq_true, ne_eq, Nat.reduceAdd, Nat.reduceEqDiff, Nat.zero_add, Nat.add_left_cancel_iff, List.set_cons_zero, List.set_cons_succ, List.length_cons, List.length_nil, Nat.reduceLT, am_ft_i, am_ft_r, am_ft_z, and_true, true_and, Option.toList_some, Option.toList_none, List.cons_append, List.nil_append, List.drop_succ_cons, List.drop_zero, iI_c, iI_b, iI_s, iI_n, iI_add, iI_sub, iI_mul, iI_neg, iI_nle, iI_ix, iI_eq0, iI_eq1, iI_lt0, iI_0lt, iI_le0, iI_0le, iI_eq, iI_lt, iI_le, iI_upd, iI_updZ, Int.reduceEq, Int.reduceLT, Int.reduceLE, Int.reduceNeg, Int.reduceNe, en, ru_fs_len, ru_f0, ru_f1, ru_f2, ru_f3, ru_f4, ru_f5, ru_f6, ru_f7, ru_f8, ru_f9, ru_f10, ru_f11, ru_f12, ru_f13, ru_s0, ru_t2, ru_l2, ru_t3, ru_l3, ru_t4, ru_l4, ru_t5, ru_l5, ru_t10, ru_l10, ru_t11, ru_l11, ru_t12, ru_l12, ru_t13, ru_l13, ru_t14, ru_l14, ru_t15, ru_l15, lo_fs_len, lo_f0, lo_f1, lo_s0, ty_fs_len, ty_f0, ty_f1, ty_f2, ty_f3, ty_f4, ty_f5, ty_f6, ty_f7, ty_f8, ty_f9, ty_s0, ty_t1, ty_l1, ty_t2, ty_l2, ty_t3, ty_l3, ty_t11, ty_l11, ty_t12, ty_l12, ty_t13, ty_l13, ty_t14, ty_l14, bo_fs_len, bo_f0, bo_f1, bo_f2, bo_f3, bo_f4, bo_f5, bo_f6, bo_f7, bo_f8, bo_s0, rw_hit]
      exact g.lo (al_le_of (by simp) (by simp))
set_option maxHeartbeats 8000000 in
theorem ct_able (d : Nat) (hd : 4 ≤ d) (h : am_H) (p q w : Nat) (n m : Int) (X : Nat → Int → Int) (S : Int → Int → Int) (H : ru_at h p q w n m X S) (N : Int) (A : Nat → Int → Int) (R : Nat → Int → Int → Int) (M : Int) (B : Nat → Int → Int) (K : Nat → Int → Int → Int) (E : en_at h p q w N A R M B K) (I : Nat → Int) (F : Nat → Int → Int) (hr : md_rg I F) (hT : ty_ok I F N A R) (hB : bo_ok I F M B K) (r : rn) (hv : rn_iv I F r) (ho : ru_ok r X S) : am_Ct am_df am_MT d 57 [.ref p] h (fun r0 h' => r0 = some (.int (iI (mb F r (I 1).toNat))) ∧ h' = h) := by
  have hI := hr.1
  obtain ⟨d, rfl⟩ : ∃ e, d = e + 1 := ⟨d - 1, by omega⟩
  refine am_ct_of2 mt_Run_ableThreads (Nat.le_of_ble_eq_true rfl) ?_
  simp only [ar_nil, ar_int, ar_ref, ar_long, Nat.reduceAdd]
  refine am_go_of 10 [4, 11] _ c_Run_ableThreads_0 ?_
  simp (maxSteps := 2000000) (disch := omega) only [c_Run_ableThreads_0, c_Run_ableThreads_1, c_Run_ableThreads_2, c_Run_ableThreads_3, c_Run_ableThreads_4, c_Run_ableThreads_5, c_Run_ableThreads_6, c_Run_ableThreads_7, c_Run_ableThreads_8, c_Run_ableThreads_9, c_Run_ableThreads_10, c_Run_ableThreads_11, c_Run_ableThreads_12, c_Run_ableThreads_13, c_Run_ableThreads_14, c_Run_ableThreads_15, c_Run_ableThreads_16, c_Run_ableThreads_17, c_Run_ableThreads_18, c_Run_ableThreads_19, c_Run_ableThreads_20, c_Run_ableThreads_21, c_Run_ableThreads_22, sx_aload_n, sx_getfield, sx_goto, sx_iconst, sx_ifCond_ne, sx_if_icmp_ge, sx_iinc, sx_iload_n, sx_ior, sx_ireturn, sx_ishl, sx_istore_n, sx_zreturn, am_W_s, am_W_0, am_mm_some, List.mem_cons, or_false, false_or, or_self, or_true, true_or, reduceIte, if_false, if_true, am_o_some, am_o_none, am_o_bad, am_o_good, am_ldi_hit, am_ldi_miss, am_lda_hit, am_lda_miss, am_ldl_hit, am_ldl_miss, am_inc_eq, am_inc_hit, am_inc_miss, am_ob_hit, am_fd_0, am_fd_s, am_ai_hit, am_ab_3, am_al_hit, am_aq_4, am_al0_hit, am_put_1, am_put_2, am_put_put, am_up_hit, am_up_miss, am_s1_eq, am_s2_eq, am_fl_nil, am_fl_hit, am_fl_int, am_fl_ref, am_fl_long, am_fl_longx, am_fl2_nil, am_fl2_hit, am_fl2_hit1, am_fl2_int, am_fl2_ref, am_fl2_long, List.not_mem_nil, not_false_eq_true, ne_eq, Nat.reduceAdd, Nat.reduceEqDiff, Nat.zero_add, Nat.add_left_cancel_iff, List.set_cons_zero, List.set_cons_succ, List.length_cons, List.length_nil, Nat.reduceLT, am_ft_i, am_ft_r, am_ft_z, and_true, true_and, Option.toList_some, Option.toList_none, List.cons_append, List.nil_append, List.drop_succ_cons, List.drop_zero, iI_c, iI_b, iI_s, iI_n, iI_add, iI_sub, iI_mul, iI_neg, iI_nle, iI_ix, iI_eq0, iI_eq1, iI_lt0, iI_0lt, iI_le0, iI_0le, iI_eq, iI_lt, iI_le, iI_upd, iI_updZ, Int.reduceEq, Int.reduceLT, Int.reduceLE, Int.reduceNeg, Int.reduceNe, ru_fs_len, ru_f0, ru_f1, ru_f2, ru_f3, ru_f4, ru_f5, ru_f6, ru_f7, ru_f8, ru_f9, ru_f10, ru_f11, ru_f12, ru_f13, ru_s0, ru_t2, ru_l2, ru_t3, ru_l3, ru_t4, ru_l4, ru_t5, ru_l5, ru_t10, ru_l10, ru_t11, ru_l11, ru_t12, ru_l12, ru_t13, ru_l13, ru_t14, ru_l14, ru_t15, ru_l15, lo_fs_len, lo_f0, lo_f1, lo_s0, ty_fs_len, ty_f0, ty_f1, ty_f2, ty_f3, ty_f4, ty_f5, ty_f6, ty_f7, ty_f8, ty_f9, ty_s0, ty_t1, ty_l1, ty_t2, ty_l2, ty_t3, ty_l3, ty_t11, ty_l11, ty_t12, ty_l12, ty_t13, ty_l13, ty_t14, ty_l14, bo_fs_len, bo_f0, bo_f1, bo_f2, bo_f3, bo_f4, bo_f5, bo_f6, bo_f7, bo_f8, bo_s0, rw_hit]
  exact (lp_able d (by omega) h p q w n m X S H N A R M B K E I F hr hT hB r hv ho (I 1).toNat 0 (by omega)).lo (al_le_of (by simp [mb]) (by simp))
/-- how many bits of a small set -/
def pc8 (a : Int) : Int := bt a 0 + bt a 1 + bt a 2
theorem ct_bitCount (d : Nat) (hd : 1 ≤ d) (h : am_H) (a : Int) (ha : 0 ≤ a ∧ a < 8) : am_Ct am_df am_MT d 58 [.int (iI a)] h (fun r0 h' => r0 = some (.int (iI (pc8 a))) ∧ h' = h) := by
  obtain ⟨d, rfl⟩ : ∃ e, d = e + 1 := ⟨d - 1, by omega⟩
  refine am_ct_of2 mt_Integer_bitCount (Nat.le_of_ble_eq_true rfl) ?_
  simp only [ar_nil, ar_int, ar_ref, ar_long, Nat.reduceAdd]
  have c : a = 0 ∨ a = 1 ∨ a = 2 ∨ a = 3 ∨ a = 4 ∨ a = 5 ∨ a = 6 ∨ a = 7 := by omega
  refine am_go_of 60 [] _ c_Integer_bitCount_0 ?_
  simp (maxSteps := 2000000) only [c_Integer_bitCount_0, c_Integer_bitCount_1, c_Integer_bitCount_2, c_Integer_bitCount_3, c_Integer_bitCount_4, c_Integer_bitCount_5, c_Integer_bitCount_6, c_Integer_bitCount_7, c_Integer_bitCount_8, c_Integer_bitCount_9, c_Integer_bitCount_10, c_Integer_bitCount_11, c_Integer_bitCount_12, c_Integer_bitCount_13, c_Integer_bitCount_14, c_Integer_bitCount_15, c_Integer_bitCount_16, c_Integer_bitCount_17, c_Integer_bitCount_18, c_Integer_bitCount_19, c_Integer_bitCount_20, c_Integer_bitCount_21, c_Integer_bitCount_22, c_Integer_bitCount_23, c_Integer_bitCount_24, c_Integer_bitCount_25, c_Integer_bitCount_26, c_Integer_bitCount_27, c_Integer_bitCount_28, c_Integer_bitCount_29, c_Integer_bitCount_30, c_Integer_bitCount_31, c_Integer_bitCount_32, c_Integer_bitCount_33, c_Integer_bitCount_34, c_Integer_bitCount_35, c_Integer_bitCount_36, c_Integer_bitCount_37, c_Integer_bitCount_38, c_Integer_bitCount_39, c_Integer_bitCount_40, c_Integer_bitCount_41, sx_bipush, sx_iadd, sx_iand, sx_iconst, sx_iload_n, sx_ireturn, sx_istore_n, sx_isub, sx_iushr, sx_ldc_w, sx_zreturn, am_W_s, am_W_0, am_mm_some, List.mem_cons, or_false, false_or, or_self, or_true, true_or, reduceIte, if_false, if_true, am_o_some, am_o_none, am_o_bad, am_o_good, am_ldi_hit, am_ldi_miss, am_lda_hit, am_lda_miss, am_ldl_hit, am_ldl_miss, am_inc_eq, am_inc_hit, am_inc_miss, am_ob_hit, am_fd_0, am_fd_s, am_ai_hit, am_ab_3, am_al_hit, am_aq_4, am_al0_hit, am_put_1, am_put_2, am_put_put, am_up_hit, am_up_miss, am_s1_eq, am_s2_eq, am_fl_nil, am_fl_hit, am_fl_int, am_fl_ref, am_fl_long, am_fl_longx, am_fl2_nil, am_fl2_hit, am_fl2_hit1, am_fl2_int, am_fl2_ref, am_fl2_long, List.not_mem_nil, not_false_eq_true, ne_eq, Nat.reduceAdd, Nat.reduceEqDiff, Nat.zero_add, Nat.add_left_cancel_iff, List.set_cons_zero, List.set_cons_succ, List.length_cons, List.length_nil, Nat.reduceLT, am_ft_i, am_ft_r, am_ft_z, and_true, true_and, Option.toList_some, Option.toList_none, List.cons_append, List.nil_append, List.drop_succ_cons, List.drop_zero]
  rcases c with rfl | rfl | rfl | rfl | rfl | rfl | rfl | rfl <;> exact congrArg (fun x => (some (Value.int x) : Option Value)) (by decide)
/-- of a small set, the member at a place -/
def ma (s p : Int) : Nat → Int → Int → Int
  | 0, _, _ => -1
  | k + 1, t, b => if bt s t = 0 then ma s p k (t + 1) b else if b = p then t else ma s p k (t + 1) (b + 1)
theorem sg_all : ∀ g : Fin 8, ∀ k : Fin 3, (iI (g.val : Int) >>> (iI (k.val : Int) &&& 31)) &&& iI 1 = iI (bt (g.val : Int) (k.val : Int)) := by decide
theorem sg {g k : Int} (hg : 0 ≤ g ∧ g < 8) (hk : 0 ≤ k ∧ k < 3) : (iI g >>> (iI k &&& 31)) &&& iI 1 = iI (bt g k) := by
  have e := sg_all ⟨g.toNat, by omega⟩ ⟨k.toNat, by omega⟩
  dsimp only at e
  rw [show ((g.toNat : Nat) : Int) = g by omega, show ((k.toNat : Nat) : Int) = k by omega] at e
  exact e
set_option maxHeartbeats 8000000 in
theorem lp_ma (d : Nat) (h : am_H) (s p : Int) (hs : 0 ≤ s ∧ s < 8) (hp : 0 ≤ p ∧ p < 8) : ∀ (k : Nat) (t b : Int), 0 ≤ t → t + k = 3 → 0 ≤ b ∧ b ≤ t → am_Go am_df am_MT d c_TS_memberAt (4, [(3, .int (iI t)), (2, .int (iI b)), (0, .int (iI s)), (1, .int (iI p))], [], h) (fun r0 h' => r0 = some (.int (iI (ma s p k t b))) ∧ h' = h) := by
  intro k
  induction k with
  | zero =>
    intro t b h1 h2 h3
    have c : 3 ≤ t := by omega
    show am_Go _ _ _ _ _ (fun r0 h' => r0 = some (.int (iI (-1))) ∧ h' = h)
    refine am_go_of 10 [4] _ c_TS_memberAt_4 ?_
    simp (maxSteps := 2000000) (disch := omega) only [c_TS_memberAt_0, c_TS_memberAt_1, c_TS_memberAt_2, c_TS_memberAt_3, c_TS_memberAt_4, c_TS_memberAt_5, c_TS_memberAt_6, c_TS_memberAt_7, c_TS_memberAt_8, c_TS_memberAt_9, c_TS_memberAt_10, c_TS_memberAt_11, c_TS_memberAt_12, c_TS_memberAt_13, c_TS_memberAt_14, c_TS_memberAt_15, c_TS_memberAt_16, c_TS_memberAt_17, c_TS_memberAt_18, c_TS_memberAt_19, c_TS_memberAt_20, c_TS_memberAt_21, c_TS_memberAt_22, sx_goto, sx_iand, sx_iconst, sx_ifCond_eq, sx_if_icmp_ge, sx_if_icmp_ne, sx_iinc, sx_iload_n, sx_ireturn, sx_ishr, sx_istore_n, sx_zreturn, am_W_s, am_W_0, am_mm_some, List.mem_cons, or_false, false_or, or_self, or_true, true_or, reduceIte, if_false, if_true, am_o_some, am_o_none, am_o_bad, am_o_good, am_ldi_hit, am_ldi_miss, am_lda_hit, am_lda_miss, am_ldl_hit, am_ldl_miss, am_inc_eq, am_inc_hit, am_inc_miss, am_ob_hit, am_fd_0, am_fd_s, am_ai_hit, am_ab_3, am_al_hit, am_aq_4, am_al0_hit, am_put_1, am_put_2, am_put_put, am_up_hit, am_up_miss, am_s1_eq, am_s2_eq, am_fl_nil, am_fl_hit, am_fl_int, am_fl_ref, am_fl_long, am_fl_longx, am_fl2_nil, am_fl2_hit, am_fl2_hit1, am_fl2_int, am_fl2_ref, am_fl2_long, List.not_mem_nil, not_false_eq_true, ne_eq, Nat.reduceAdd, Nat.reduceEqDiff, Nat.zero_add, Nat.add_left_cancel_iff, List.set_cons_zero, List.set_cons_succ, List.length_cons, List.length_nil, Nat.reduceLT, am_ft_i, am_ft_r, am_ft_z, and_true, true_and, Option.toList_some, Option.toList_none, List.cons_append, List.nil_append, List.drop_succ_cons, List.drop_zero, iI_c, iI_b, iI_s, iI_n, iI_add, iI_sub, iI_mul, iI_neg, iI_nle, iI_ix, iI_eq0, iI_eq1, iI_lt0, iI_0lt, iI_le0, iI_0le, iI_eq, iI_lt, iI_le, iI_upd, iI_updZ, Int.reduceEq, Int.reduceLT, Int.reduceLE, Int.reduceNeg, Int.reduceNe, c, ts_fs_len, ts_f0, ts_f1, ts_f2, ts_f3, ts_f4, ts_s4, ty_fs_len, ty_f0, ty_f1, ty_f2, ty_f3, ty_f4, ty_f5, ty_f6, ty_f7, ty_f8, ty_f9, ty_s0, ty_t1, ty_l1, ty_t2, ty_l2, ty_t3, ty_l3, ty_t11, ty_l11, ty_t12, ty_l12, ty_t13, ty_l13, ty_t14, ty_l14, bo_fs_len, bo_f0, bo_f1, bo_f2, bo_f3, bo_f4, bo_f5, bo_f6, bo_f7, bo_f8, bo_s0, ru_fs_len, ru_f0, ru_f1, ru_f2, ru_f3, ru_f4, ru_f5, ru_f6, ru_f7, ru_f8, ru_f9, ru_f10, ru_f11, ru_f12, ru_f13, ru_s0, ru_t2, ru_l2, ru_t3, ru_l3, ru_t4, ru_l4, ru_t5, ru_l5, ru_t10, ru_l10, ru_t11, ru_l11, ru_t12, ru_l12, ru_t13, ru_l13, ru_t14, ru_l14, ru_t15, ru_l15, lo_fs_len, lo_f0, lo_f1, lo_s0, rw_hit]
    all_goals (first | rfl | trivial | omega)
  | succ k ih =>
    intro t b h1 h2 h3
    have c : ¬ 3 ≤ t := by omega
    have eb := sg hs (k := t) ⟨h1, by omega⟩
    unfold ma
    rcases bt_01 (g := s) (k := t) with e | e
    · rw [if_pos e]
      rw [e] at eb
      have g := ih (t + 1) b (by omega) (by omega) (by omega)
      refine am_go_of 20 [4] _ c_TS_memberAt_4 ?_
      simp (maxSteps := 2000000) (disch := omega) only [c_TS_memberAt_0, c_TS_memberAt_1, c_TS_memberAt_2, c_TS_memberAt_3, c_TS_memberAt_4, c_TS_memberAt_5, c_TS_memberAt_6, c_TS_memberAt_7, c_TS_memberAt_8, c_TS_memberAt_9, c_TS_memberAt_10, c_TS_memberAt_11, c_TS_memberAt_12, c_TS_memberAt_13, c_TS_memberAt_14, c_TS_memberAt_15, c_TS_memberAt_16, c_TS_memberAt_17, c_TS_memberAt_18, c_TS_memberAt_19, c_TS_memberAt_20, c_TS_memberAt_21, c_TS_memberAt_22, sx_goto, sx_iand, sx_iconst, sx_ifCond_eq, sx_if_icmp_ge, sx_if_icmp_ne, sx_iinc, sx_iload_n, sx_ireturn, sx_ishr, sx_istore_n, sx_zreturn, am_W_s, am_W_0, am_mm_some, List.mem_cons, or_false, false_or, or_self, or_true, true_or, reduceIte, if_false, if_true, am_o_some, am_o_none, am_o_bad, am_o_good, am_ldi_hit, am_ldi_miss, am_lda_hit, am_lda_miss, am_ldl_hit, am_ldl_miss, am_inc_eq, am_inc_hit, am_inc_miss, am_ob_hit, am_fd_0, am_fd_s, am_ai_hit, am_ab_3, am_al_hit, am_aq_4, am_al0_hit, am_put_1, am_put_2, am_put_put, am_up_hit, am_up_miss, am_s1_eq, am_s2_eq, am_fl_nil, am_fl_hit, am_fl_int, am_fl_ref, am_fl_long, am_fl_longx, am_fl2_nil, am_fl2_hit, am_fl2_hit1, am_fl2_int, am_fl2_ref, am_fl2_long, List.not_mem_nil, not_false_eq_true, ne_eq, Nat.reduceAdd, Nat.reduceEqDiff, Nat.zero_add, Nat.add_left_cancel_iff, List.set_cons_zero, List.set_cons_succ, List.length_cons, List.length_nil, Nat.reduceLT, am_ft_i, am_ft_r, am_ft_z, and_true, true_and, Option.toList_some, Option.toList_none, List.cons_append, List.nil_append, List.drop_succ_cons, List.drop_zero, iI_c, iI_b, iI_s, iI_n, iI_add, iI_sub, iI_mul, iI_neg, iI_nle, iI_ix, iI_eq0, iI_eq1, iI_lt0, iI_0lt, iI_le0, iI_0le, iI_eq, iI_lt, iI_le, iI_upd, iI_updZ, Int.reduceEq, Int.reduceLT, Int.reduceLE, Int.reduceNeg, Int.reduceNe, c, eb, ts_fs_len, ts_f0, ts_f1, ts_f2, ts_f3, ts_f4, ts_s4, ty_fs_len, ty_f0, ty_f1, ty_f2, ty_f3, ty_f4, ty_f5, ty_f6, ty_f7, ty_f8, ty_f9, ty_s0, ty_t1, ty_l1, ty_t2, ty_l2, ty_t3, ty_l3, ty_t11, ty_l11, ty_t12, ty_l12, ty_t13, ty_l13, ty_t14, ty_l14, bo_fs_len, bo_f0, bo_f1, bo_f2, bo_f3, bo_f4, bo_f5, bo_f6, bo_f7, bo_f8, bo_s0, ru_fs_len, ru_f0, ru_f1, ru_f2, ru_f3, ru_f4, ru_f5, ru_f6, ru_f7, ru_f8, ru_f9, ru_f10, ru_f11, ru_f12, ru_f13, ru_s0, ru_t2, ru_l2, ru_t3, ru_l3, ru_t4, ru_l4, ru_t5, ru_l5, ru_t10, ru_l10, ru_t11, ru_l11, ru_t12, ru_l12, ru_t13, ru_l13, ru_t14, ru_l14, ru_t15, ru_l15, lo_fs_len, lo_f0, lo_f1, lo_s0, rw_hit]
      exact g.lo (al_le_of (by simp) (by simp))
    · rw [if_neg (by omega)]
      rw [e] at eb
      by_cases cb : b = p
      · rw [if_pos cb]
        refine am_go_of 20 [4] _ c_TS_memberAt_4 ?_
        simp (maxSteps := 2000000) (disch := omega) only [c_TS_memberAt_0, c_TS_memberAt_1, c_TS_memberAt_2, c_TS_memberAt_3, c_TS_memberAt_4, c_TS_memberAt_5, c_TS_memberAt_6, c_TS_memberAt_7, c_TS_memberAt_8, c_TS_memberAt_9, c_TS_memberAt_10, c_TS_memberAt_11, c_TS_memberAt_12, c_TS_memberAt_13, c_TS_memberAt_14, c_TS_memberAt_15, c_TS_memberAt_16, c_TS_memberAt_17, c_TS_memberAt_18, c_TS_memberAt_19, c_TS_memberAt_20, c_TS_memberAt_21, c_TS_memberAt_22, sx_goto, sx_iand, sx_iconst, sx_ifCond_eq, sx_if_icmp_ge, sx_if_icmp_ne, sx_iinc, sx_iload_n, sx_ireturn, sx_ishr, sx_istore_n, sx_zreturn, am_W_s, am_W_0, am_mm_some, List.mem_cons, or_false, false_or, or_self, or_true, true_or, reduceIte, if_false, if_true, am_o_some, am_o_none, am_o_bad, am_o_good, am_ldi_hit, am_ldi_miss, am_lda_hit, am_lda_miss, am_ldl_hit, am_ldl_miss, am_inc_eq, am_inc_hit, am_inc_miss, am_ob_hit, am_fd_0, am_fd_s, am_ai_hit, am_ab_3, am_al_hit, am_aq_4, am_al0_hit, am_put_1, am_put_2, am_put_put, am_up_hit, am_up_miss, am_s1_eq, am_s2_eq, am_fl_nil, am_fl_hit, am_fl_int, am_fl_ref, am_fl_long, am_fl_longx, am_fl2_nil, am_fl2_hit, am_fl2_hit1, am_fl2_int, am_fl2_ref, am_fl2_long, List.not_mem_nil, not_false_eq_true, ne_eq, Nat.reduceAdd, Nat.reduceEqDiff, Nat.zero_add, Nat.add_left_cancel_iff, List.set_cons_zero, List.set_cons_succ, List.length_cons, List.length_nil, Nat.reduceLT, am_ft_i, am_ft_r, am_ft_z, and_true, true_and, Option.toList_some, Option.toList_none, List.cons_append, List.nil_append, List.drop_succ_cons, List.drop_zero, iI_c, iI_b, iI_s, iI_n, iI_add, iI_sub, iI_mul, iI_neg, iI_nle, iI_ix, iI_eq0, iI_eq1, iI_lt0, iI_0lt, iI_le0, iI_0le, iI_eq, iI_lt, iI_le, iI_upd, iI_updZ, Int.reduceEq, Int.reduceLT, Int.reduceLE, Int.reduceNeg, Int.reduceNe, c, eb, cb, ts_fs_len, ts_f0, ts_f1, ts_f2, ts_f3, ts_f4, ts_s4, ty_fs_len, ty_f0, ty_f1, ty_f2, ty_f3, ty_f4, ty_f5, ty_f6, ty_f7, ty_f8, ty_f9, ty_s0, ty_t1, ty_l1, ty_t2, ty_l2, ty_t3, ty_l3, ty_t11, ty_l11, ty_t12, ty_l12, ty_t13, ty_l13, ty_t14, ty_l14, bo_fs_len, bo_f0, bo_f1, bo_f2, bo_f3, bo_f4, bo_f5, bo_f6, bo_f7, bo_f8, bo_s0, ru_fs_len, ru_f0, ru_f1, ru_f2, ru_f3, ru_f4, ru_f5, ru_f6, ru_f7, ru_f8, ru_f9, ru_f10, ru_f11, ru_f12, ru_f13, ru_s0, ru_t2, ru_l2, ru_t3, ru_l3, ru_t4, ru_l4, ru_t5, ru_l5, ru_t10, ru_l10, ru_t11, ru_l11, ru_t12, ru_l12, ru_t13, ru_l13, ru_t14, ru_l14, ru_t15, ru_l15, lo_fs_len, lo_f0, lo_f1, lo_s0, rw_hit]
        all_goals (first | rfl | trivial | omega)
      · rw [if_neg cb]
        have g := ih (t + 1) (b + 1) (by omega) (by omega) (by omega)
        refine am_go_of 20 [4] _ c_TS_memberAt_4 ?_
        simp (maxSteps := 2000000) (disch := omega) only [c_TS_memberAt_0, c_TS_memberAt_1, c_TS_memberAt_2, c_TS_memberAt_3, c_TS_memberAt_4, c_TS_memberAt_5, c_TS_memberAt_6, c_TS_memberAt_7, c_TS_memberAt_8, c_TS_memberAt_9, c_TS_memberAt_10, c_TS_memberAt_11, c_TS_memberAt_12, c_TS_memberAt_13, c_TS_memberAt_14, c_TS_memberAt_15, c_TS_memberAt_16, c_TS_memberAt_17, c_TS_memberAt_18, c_TS_memberAt_19, c_TS_memberAt_20, c_TS_memberAt_21, c_TS_memberAt_22, sx_goto, sx_iand, sx_iconst, sx_ifCond_eq, sx_if_icmp_ge, sx_if_icmp_ne, sx_iinc, sx_iload_n, sx_ireturn, sx_ishr, sx_istore_n, sx_zreturn, am_W_s, am_W_0, am_mm_some, List.mem_cons, or_false, false_or, or_self, or_true, true_or, reduceIte, if_false, if_true, am_o_some, am_o_none, am_o_bad, am_o_good, am_ldi_hit, am_ldi_miss, am_lda_hit, am_lda_miss, am_ldl_hit, am_ldl_miss, am_inc_eq, am_inc_hit, am_inc_miss, am_ob_hit, am_fd_0, am_fd_s, am_ai_hit, am_ab_3, am_al_hit, am_aq_4, am_al0_hit, am_put_1, am_put_2, am_put_put, am_up_hit, am_up_miss, am_s1_eq, am_s2_eq, am_fl_nil, am_fl_hit, am_fl_int, am_fl_ref, am_fl_long, am_fl_longx, am_fl2_nil, am_fl2_hit, am_fl2_hit1, am_fl2_int, am_fl2_ref, am_fl2_long, List.not_mem_nil, not_false_eq_true, ne_eq, Nat.reduceAdd, Nat.reduceEqDiff, Nat.zero_add, Nat.add_left_cancel_iff, List.set_cons_zero, List.set_cons_succ, List.length_cons, List.length_nil, Nat.reduceLT, am_ft_i, am_ft_r, am_ft_z, and_true, true_and, Option.toList_some, Option.toList_none, List.cons_append, List.nil_append, List.drop_succ_cons, List.drop_zero, iI_c, iI_b, iI_s, iI_n, iI_add, iI_sub, iI_mul, iI_neg, iI_nle, iI_ix, iI_eq0, iI_eq1, iI_lt0, iI_0lt, iI_le0, iI_0le, iI_eq, iI_lt, iI_le, iI_upd, iI_updZ, Int.reduceEq, Int.reduceLT, Int.reduceLE, Int.reduceNeg, Int.reduceNe, c, eb, cb, ts_fs_len, ts_f0, ts_f1, ts_f2, ts_f3, ts_f4, ts_s4, ty_fs_len, ty_f0, ty_f1, ty_f2, ty_f3, ty_f4, ty_f5, ty_f6, ty_f7, ty_f8, ty_f9, ty_s0, ty_t1, ty_l1, ty_t2, ty_l2, ty_t3, ty_l3, ty_t11, ty_l11, ty_t12, ty_l12, ty_t13, ty_l13, ty_t14, ty_l14, bo_fs_len, bo_f0, bo_f1, bo_f2, bo_f3, bo_f4, bo_f5, bo_f6, bo_f7, bo_f8, bo_s0, ru_fs_len, ru_f0, ru_f1, ru_f2, ru_f3, ru_f4, ru_f5, ru_f6, ru_f7, ru_f8, ru_f9, ru_f10, ru_f11, ru_f12, ru_f13, ru_s0, ru_t2, ru_l2, ru_t3, ru_l3, ru_t4, ru_l4, ru_t5, ru_l5, ru_t10, ru_l10, ru_t11, ru_l11, ru_t12, ru_l12, ru_t13, ru_l13, ru_t14, ru_l14, ru_t15, ru_l15, lo_fs_len, lo_f0, lo_f1, lo_s0, rw_hit]
        exact g.lo (al_le_of (by simp) (by simp))
set_option maxHeartbeats 8000000 in
theorem ct_memberAt (d : Nat) (hd : 1 ≤ d) (h : am_H) (s p : Int) (hs : 0 ≤ s ∧ s < 8) (hp : 0 ≤ p ∧ p < 8) : am_Ct am_df am_MT d 59 [.int (iI s), .int (iI p)] h (fun r0 h' => r0 = some (.int (iI (ma s p 3 0 0))) ∧ h' = h) := by
  obtain ⟨d, rfl⟩ : ∃ e, d = e + 1 := ⟨d - 1, by omega⟩
  refine am_ct_of2 mt_TS_memberAt (Nat.le_of_ble_eq_true rfl) ?_
  simp only [ar_nil, ar_int, ar_ref, ar_long, Nat.reduceAdd]
  refine am_go_of 10 [4] _ c_TS_memberAt_0 ?_
  simp (maxSteps := 2000000) (disch := omega) only [c_TS_memberAt_0, c_TS_memberAt_1, c_TS_memberAt_2, c_TS_memberAt_3, c_TS_memberAt_4, c_TS_memberAt_5, c_TS_memberAt_6, c_TS_memberAt_7, c_TS_memberAt_8, c_TS_memberAt_9, c_TS_memberAt_10, c_TS_memberAt_11, c_TS_memberAt_12, c_TS_memberAt_13, c_TS_memberAt_14, c_TS_memberAt_15, c_TS_memberAt_16, c_TS_memberAt_17, c_TS_memberAt_18, c_TS_memberAt_19, c_TS_memberAt_20, c_TS_memberAt_21, c_TS_memberAt_22, sx_goto, sx_iand, sx_iconst, sx_ifCond_eq, sx_if_icmp_ge, sx_if_icmp_ne, sx_iinc, sx_iload_n, sx_ireturn, sx_ishr, sx_istore_n, sx_zreturn, am_W_s, am_W_0, am_mm_some, List.mem_cons, or_false, false_or, or_self, or_true, true_or, reduceIte, if_false, if_true, am_o_some, am_o_none, am_o_bad, am_o_good, am_ldi_hit, am_ldi_miss, am_lda_hit, am_lda_miss, am_ldl_hit, am_ldl_miss, am_inc_eq, am_inc_hit, am_inc_miss, am_ob_hit, am_fd_0, am_fd_s, am_ai_hit, am_ab_3, am_al_hit, am_aq_4, am_al0_hit, am_put_1, am_put_2, am_put_put, am_up_hit, am_up_miss, am_s1_eq, am_s2_eq, am_fl_nil, am_fl_hit, am_fl_int, am_fl_ref, am_fl_long, am_fl_longx, am_fl2_nil, am_fl2_hit, am_fl2_hit1, am_fl2_int, am_fl2_ref, am_fl2_long, List.not_mem_nil, not_false_eq_true, ne_eq, Nat.reduceAdd, Nat.reduceEqDiff, Nat.zero_add, Nat.add_left_cancel_iff, List.set_cons_zero, List.set_cons_succ, List.length_cons, List.length_nil, Nat.reduceLT, am_ft_i, am_ft_r, am_ft_z, and_true, true_and, Option.toList_some, Option.toList_none, List.cons_append, List.nil_append, List.drop_succ_cons, List.drop_zero, iI_c, iI_b, iI_s, iI_n, iI_add, iI_sub, iI_mul, iI_neg, iI_nle, iI_ix, iI_eq0, iI_eq1, iI_lt0, iI_0lt, iI_le0, iI_0le, iI_eq, iI_lt, iI_le, iI_upd, iI_updZ, Int.reduceEq, Int.reduceLT, Int.reduceLE, Int.reduceNeg, Int.reduceNe, ts_fs_len, ts_f0, ts_f1, ts_f2, ts_f3, ts_f4, ts_s4, ty_fs_len, ty_f0, ty_f1, ty_f2, ty_f3, ty_f4, ty_f5, ty_f6, ty_f7, ty_f8, ty_f9, ty_s0, ty_t1, ty_l1, ty_t2, ty_l2, ty_t3, ty_l3, ty_t11, ty_l11, ty_t12, ty_l12, ty_t13, ty_l13, ty_t14, ty_l14, bo_fs_len, bo_f0, bo_f1, bo_f2, bo_f3, bo_f4, bo_f5, bo_f6, bo_f7, bo_f8, bo_s0, ru_fs_len, ru_f0, ru_f1, ru_f2, ru_f3, ru_f4, ru_f5, ru_f6, ru_f7, ru_f8, ru_f9, ru_f10, ru_f11, ru_f12, ru_f13, ru_s0, ru_t2, ru_l2, ru_t3, ru_l3, ru_t4, ru_l4, ru_t5, ru_l5, ru_t10, ru_l10, ru_t11, ru_l11, ru_t12, ru_l12, ru_t13, ru_l13, ru_t14, ru_l14, ru_t15, ru_l15, lo_fs_len, lo_f0, lo_f1, lo_s0, rw_hit]
  exact (lp_ma d h s p hs hp 3 0 0 (Int.le_refl _) (by decide) ⟨Int.le_refl _, Int.le_refl _⟩).lo (al_le_of (by simp) (by simp))
theorem mb_bt {F : Nat → Int → Int} {r : rn} {k : Nat} (hk : k ≤ 3) : mb F r k < 8 ∧ ∀ t : Nat, t < 3 → bt (mb F r k) t = if t < k then hv1 F r t else 0 := by
  have e0 := hv1_01 (F := F) (r := r) (h := ((0 : Nat) : Int))
  have e1 := hv1_01 (F := F) (r := r) (h := ((1 : Nat) : Int))
  have e2 := hv1_01 (F := F) (r := r) (h := ((2 : Nat) : Int))
  have c : k = 0 ∨ k = 1 ∨ k = 2 ∨ k = 3 := by omega
  have m0 : mb F r 0 = 0 := rfl
  have m1 : mb F r 1 = hv1 F r ((0 : Nat) : Int) := by
    show mb F r 0 + hv1 F r ((0 : Nat) : Int) * 2 ^ 0 = _
    rw [m0]
    omega
  have m2 : mb F r 2 = hv1 F r ((0 : Nat) : Int) + hv1 F r ((1 : Nat) : Int) * 2 := by
    show mb F r 1 + hv1 F r ((1 : Nat) : Int) * 2 ^ 1 = _
    rw [m1]
    omega
  have m3 : mb F r 3 = hv1 F r ((0 : Nat) : Int) + hv1 F r ((1 : Nat) : Int) * 2 + hv1 F r ((2 : Nat) : Int) * 4 := by
    show mb F r 2 + hv1 F r ((2 : Nat) : Int) * 2 ^ 2 = _
    rw [m2]
    omega
  have ct : ∀ t : Nat, t < 3 → t = 0 ∨ t = 1 ∨ t = 2 := fun t h => by omega
  rcases c with rfl | rfl | rfl | rfl
  · rw [m0]
    refine ⟨by decide, fun t ht => ?_⟩
    rcases ct t ht with rfl | rfl | rfl <;> (rw [if_neg (by decide)]; decide)
  · rw [m1]
    refine ⟨by omega, fun t ht => ?_⟩
    rcases ct t ht with rfl | rfl | rfl
    · rw [if_pos (by decide)]
      rcases e0 with e | e <;> rw [e] <;> decide
    · rw [if_neg (by decide)]
      rcases e0 with e | e <;> rw [e] <;> decide
    · rw [if_neg (by decide)]
      rcases e0 with e | e <;> rw [e] <;> decide
  · rw [m2]
    refine ⟨by omega, fun t ht => ?_⟩
    rcases ct t ht with rfl | rfl | rfl
    · rw [if_pos (by decide)]
      rcases e0 with e | e <;> rcases e1 with f | f <;> rw [e, f] <;> decide
    · rw [if_pos (by decide)]
      rcases e0 with e | e <;> rcases e1 with f | f <;> rw [e, f] <;> decide
    · rw [if_neg (by decide)]
      rcases e0 with e | e <;> rcases e1 with f | f <;> rw [e, f] <;> decide
  · rw [m3]
    refine ⟨by omega, fun t ht => ?_⟩
    rcases ct t ht with rfl | rfl | rfl <;> rw [if_pos (by decide)] <;> rcases e0 with e | e <;> rcases e1 with f | f <;> rcases e2 with g | g <;> rw [e, f, g] <;> decide
/-- of k THREADS from t on: whose bit, at place p - b -/
theorem ma_pk {F : Nat → Int → Int} {r : rn} {n : Nat} (hn : n ≤ 3) {p : Int} : ∀ (k t : Nat) (b : Int), t + k = 3 → (p < b + hc F r (n - t) t → b ≤ p → ma (mb F r n) p k t b = pk F r (n - t) t (p - b)) := by
  intro k
  induction k with
  | zero =>
    intro t b h1 h2 h3
    have : n - t = 0 := by omega
    rw [this] at h2
    have : hc F r 0 (t : Int) = 0 := rfl
    omega
  | succ k ih =>
    intro t b h1 h2 h3
    have eb := (mb_bt (F := F) (r := r) hn).2 t (by omega)
    by_cases ct : t < n
    · rw [if_pos ct] at eb
      obtain ⟨u, hu⟩ : ∃ u, n - t = u + 1 := ⟨n - t - 1, by omega⟩
      have hu2 : n - (t + 1) = u := by omega
      have g := ih (t + 1)
      rw [hu2, show (((t + 1 : Nat)) : Int) = (t : Int) + 1 by omega] at g
      rw [hu] at h2 ⊢
      have ehc : hc F r (u + 1) (t : Int) = hv1 F r t + hc F r u ((t : Int) + 1) := rfl
      unfold ma pk
      rw [eb]
      rcases hv1_01 (F := F) (r := r) (h := (t : Int)) with e | e
      · rw [e, if_pos rfl, if_neg (by omega), Int.sub_zero]
        exact g b (by omega) (by omega) h3
      · rw [e, if_neg (by decide)]
        by_cases cb : b = p
        · rw [if_pos cb, if_pos ⟨rfl, by omega⟩]
        · rw [if_neg cb, if_neg (by omega)]
          have := g (b + 1) (by omega) (by omega) (by omega)
          rw [this, show p - (b + 1) = p - b - 1 by omega]
    · have : n - t = 0 := by omega
      rw [this] at h2
      have : hc F r 0 (t : Int) = 0 := rfl
      omega
theorem pc_hc {F : Nat → Int → Int} {r : rn} {n : Nat} (hn : n ≤ 3) : pc8 (mb F r n) = hc F r n 0 := by
  have h := (mb_bt (F := F) (r := r) hn).2
  have b0 := h 0 (by decide)
  have b1 := h 1 (by decide)
  have b2 := h 2 (by decide)
  unfold pc8
  have c : n = 0 ∨ n = 1 ∨ n = 2 ∨ n = 3 := by omega
  have z1 : ((0 : Int) + 1) = ((1 : Nat) : Int) := rfl
  have z2 : ((0 : Int) + 1 + 1) = ((2 : Nat) : Int) := rfl
  rw [show (((0 : Nat)) : Int) = 0 from rfl] at b0
  rw [show (((1 : Nat)) : Int) = 1 from rfl] at b1
  rw [show (((2 : Nat)) : Int) = 2 from rfl] at b2
  rw [b0, b1, b2]
  rcases c with rfl | rfl | rfl | rfl <;> simp [hc]
  omega
