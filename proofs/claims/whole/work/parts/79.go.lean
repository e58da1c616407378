theorem mt_TS_go : am_MT[56]? = some m_TS_go := rfl
theorem c_TS_go_0 : c_TS_go[0]? = some (0, 1, .iload_n 1, 1, 0, 0, 0, 0, []) := Eq.trans rfl rfl
theorem c_TS_go_1 : c_TS_go[1]? = some (1, 1, .istore_n 2, 2, 0, 0, 0, 0, []) := Eq.trans rfl rfl
theorem c_TS_go_2 : c_TS_go[2]? = some (2, 1, .iconst 0, 0, 0, 0, 0, 0, []) := Eq.trans rfl rfl
theorem c_TS_go_3 : c_TS_go[3]? = some (3, 1, .istore_n 3, 3, 0, 0, 0, 0, []) := Eq.trans rfl rfl
theorem c_TS_go_4 : c_TS_go[4]? = some (4, 1, .iload_n 3, 3, 0, 0, 0, 0, []) := Eq.trans rfl rfl
theorem c_TS_go_5 : c_TS_go[5]? = some (5, 2, .bipush 66, 0, 0, 0, 0, 0, []) := Eq.trans rfl rfl
theorem c_TS_go_6 : c_TS_go[6]? = some (7, 3, .if_icmp .ge 56, 35, 0, 0, 0, 0, []) := Eq.trans rfl rfl
theorem c_TS_go_7 : c_TS_go[7]? = some (10, 1, .aload_n 0, 0, 0, 0, 0, 0, []) := Eq.trans rfl rfl
theorem c_TS_go_8 : c_TS_go[8]? = some (11, 3, .getfield 30, 0, 2, 0, 0, 325, []) := Eq.trans rfl rfl
theorem c_TS_go_9 : c_TS_go[9]? = some (14, 3, .invokevirtual 117, 57, 1, 3, 0, 538, []) := Eq.trans rfl rfl
theorem c_TS_go_10 : c_TS_go[10]? = some (17, 2, .istore 4, 4, 0, 0, 0, 0, []) := Eq.trans rfl rfl
theorem c_TS_go_11 : c_TS_go[11]? = some (19, 2, .iload 4, 4, 0, 0, 0, 0, []) := Eq.trans rfl rfl
theorem c_TS_go_12 : c_TS_go[12]? = some (21, 3, .invokestatic 121, 58, 1, 0, 0, 543, []) := Eq.trans rfl rfl
theorem c_TS_go_13 : c_TS_go[13]? = some (24, 2, .istore 5, 5, 0, 0, 0, 0, []) := Eq.trans rfl rfl
theorem c_TS_go_14 : c_TS_go[14]? = some (26, 2, .iload 5, 5, 0, 0, 0, 0, []) := Eq.trans rfl rfl
theorem c_TS_go_15 : c_TS_go[15]? = some (28, 3, .ifCond .ne 5, 18, 0, 0, 0, 0, []) := Eq.trans rfl rfl
theorem c_TS_go_16 : c_TS_go[16]? = some (31, 1, .iload_n 3, 3, 0, 0, 0, 0, []) := Eq.trans rfl rfl
theorem c_TS_go_17 : c_TS_go[17]? = some (32, 1, .ireturn, 0, 0, 0, 0, 0, []) := Eq.trans rfl rfl
theorem c_TS_go_18 : c_TS_go[18]? = some (33, 1, .iload_n 2, 2, 0, 0, 0, 0, []) := Eq.trans rfl rfl
theorem c_TS_go_19 : c_TS_go[19]? = some (34, 2, .ldc 126, 1664525, 0, 0, 0, 549, []) := Eq.trans rfl rfl
theorem c_TS_go_20 : c_TS_go[20]? = some (36, 1, .imul, 0, 0, 0, 0, 0, []) := Eq.trans rfl rfl
theorem c_TS_go_21 : c_TS_go[21]? = some (37, 2, .ldc 127, 1013904223, 0, 0, 0, 550, []) := Eq.trans rfl rfl
theorem c_TS_go_22 : c_TS_go[22]? = some (39, 1, .iadd, 0, 0, 0, 0, 0, []) := Eq.trans rfl rfl
theorem c_TS_go_23 : c_TS_go[23]? = some (40, 1, .istore_n 2, 2, 0, 0, 0, 0, []) := Eq.trans rfl rfl
theorem c_TS_go_24 : c_TS_go[24]? = some (41, 1, .aload_n 0, 0, 0, 0, 0, 0, []) := Eq.trans rfl rfl
theorem c_TS_go_25 : c_TS_go[25]? = some (42, 2, .iload 4, 4, 0, 0, 0, 0, []) := Eq.trans rfl rfl
theorem c_TS_go_26 : c_TS_go[26]? = some (44, 1, .iload_n 2, 2, 0, 0, 0, 0, []) := Eq.trans rfl rfl
theorem c_TS_go_27 : c_TS_go[27]? = some (45, 2, .bipush 8, 0, 0, 0, 0, 0, []) := Eq.trans rfl rfl
theorem c_TS_go_28 : c_TS_go[28]? = some (47, 1, .iushr, 0, 0, 0, 0, 0, []) := Eq.trans rfl rfl
theorem c_TS_go_29 : c_TS_go[29]? = some (48, 2, .iload 5, 5, 0, 0, 0, 0, []) := Eq.trans rfl rfl
theorem c_TS_go_30 : c_TS_go[30]? = some (50, 1, .irem, 0, 0, 0, 0, 0, []) := Eq.trans rfl rfl
theorem c_TS_go_31 : c_TS_go[31]? = some (51, 3, .invokestatic 128, 59, 2, 0, 0, 551, []) := Eq.trans rfl rfl
theorem c_TS_go_32 : c_TS_go[32]? = some (54, 3, .invokevirtual 114, 45, 2, 0, 0, 490, []) := Eq.trans rfl rfl
theorem c_TS_go_33 : c_TS_go[33]? = some (57, 3, .iinc 3 1, 0, 0, 0, 0, 0, []) := Eq.trans rfl rfl
theorem c_TS_go_34 : c_TS_go[34]? = some (60, 3, .goto (-56), 4, 0, 0, 0, 0, []) := Eq.trans rfl rfl
theorem c_TS_go_35 : c_TS_go[35]? = some (63, 2, .bipush 66, 0, 0, 0, 0, 0, []) := Eq.trans rfl rfl
theorem c_TS_go_36 : c_TS_go[36]? = some (65, 1, .ireturn, 0, 0, 0, 0, 0, []) := Eq.trans rfl rfl
theorem go_f_ge : ∀ (k : Nat) (z : Int32) (m : Int) (I : Nat → Int) (F : Nat → Int → Int) (r : rn), m ≤ (go_f k z m I F r).1 := by
  intro k
  induction k with
  | zero => intro z m I F r; exact Int.le_refl _
  | succ k ih =>
    intro z m I F r
    unfold go_f
    split
    · exact Int.le_refl _
    · have := ih (gz z) (m + 1) (mk_J I F r (go_h I F r z)) (mk_F I F r (go_h I F r z)) (sq_steps F r (go_h I F r z)).1
      omega
set_option maxHeartbeats 8000000 in
theorem tg_pick (d : Nat) (h : am_H) (o : Nat) (z : Int32) (c s n : Int) (hn : n = 1 ∨ n = 2 ∨ n = 3) (Q : Option Value → am_H → Prop)
    (g : am_Go am_df am_MT d c_TS_go (31, [(3, .int (iI c)), (2, .int (gz z)), (0, .ref o)], [.int (iI (gp (gz z) n)), .int (iI s), .ref o], h) Q) : am_Go am_df am_MT d c_TS_go (13, [(4, .int (iI s)), (3, .int (iI c)), (2, .int z), (0, .ref o)], [.int (iI n)], h) Q := by
  have hgx := gx_rg (gz z)
  have hx := hgx.2
  have h1g := hgx.1
  have ez : z * iI 1664525 + iI 1013904223 = gz z := rfl
  have ez2 : z * iI ((1664525 : Nat) : Int) + iI ((1013904223 : Nat) : Int) = gz z := rfl
  unfold gp at g
  rcases hn with e | e | e <;> subst e
  · refine am_go_of 30 [4, 9, 12, 31, 32] _ c_TS_go_13 ?_
    simp (maxSteps := 2000000) (disch := omega) only [c_TS_go_0, c_TS_go_1, c_TS_go_2, c_TS_go_3, c_TS_go_4, c_TS_go_5, c_TS_go_6, c_TS_go_7, c_TS_go_8, c_TS_go_9, c_TS_go_10, c_TS_go_11, c_TS_go_12, c_TS_go_13, c_TS_go_14, c_TS_go_15, c_TS_go_16, c_TS_go_17, c_TS_go_18, c_TS_go_19, c_TS_go_20, c_TS_go_21, c_TS_go_22, c_TS_go_23, c_TS_go_24, c_TS_go_25, c_TS_go_26, c_TS_go_27, c_TS_go_28, c_TS_go_29, c_TS_go_30, c_TS_go_31, c_TS_go_32, c_TS_go_33, c_TS_go_34, c_TS_go_35, c_TS_go_36, sx_aload_n, sx_bipush, sx_getfield, sx_goto, sx_iadd, sx_iconst, sx_ifCond_ne, sx_if_icmp_ge, sx_iinc, sx_iload, sx_iload_n, sx_imul, sx_irem, sx_ireturn, sx_istore, sx_istore_n, sx_iushr, sx_ldc, sx_zreturn, am_W_s, am_W_0, am_mm_some, List.mem_cons, or_false, false_or, or_self, or_true, true_or, reduceIte, if_false, if_true, am_o_some, am_o_none, am_o_bad, am_o_good, am_ldi_hit, am_ldi_miss, am_lda_hit, am_lda_miss, am_ldl_hit, am_ldl_miss, am_inc_eq, am_inc_hit, am_inc_miss, am_ob_hit, am_fd_0, am_fd_s, am_ai_hit, am_ab_3, am_al_hit, am_aq_4, am_al0_hit, am_put_1, am_put_2, am_put_put, am_up_hit, am_up_miss, am_s1_eq, am_s2_eq, am_fl_nil, am_fl_hit, am_fl_int, am_fl_ref, am_fl_long, am_fl_longx, am_fl2_nil, am_fl2_hit, am_fl2_hit1, am_fl2_int, am_fl2_ref, am_fl2_long, List.not_mem_nil, not_false_eq_true, ne_eq, Nat.reduceAdd, Nat.reduceEqDiff, Nat.zero_add, Nat.add_left_cancel_iff, List.set_cons_zero, List.set_cons_succ, List.length_cons, List.length_nil, Nat.reduceLT, am_ft_i, am_ft_r, am_ft_z, and_true, true_and, Option.toList_some, Option.toList_none, List.cons_append, List.nil_append, List.drop_succ_cons, List.drop_zero, iI_c, iI_b, iI_s, iI_n, iI_add, iI_sub, iI_mul, iI_neg, iI_nle, iI_ix, iI_eq0, iI_eq1, iI_lt0, iI_0lt, iI_le0, iI_0le, iI_eq, iI_lt, iI_le, iI_upd, iI_updZ, Int.reduceEq, Int.reduceLT, Int.reduceLE, Int.reduceNeg, Int.reduceNe, ez, ez2, hx, iI_div, ts_fs_len, ts_f0, ts_f1, ts_f2, ts_f3, ts_f4, ts_s4, ty_fs_len, ty_f0, ty_f1, ty_f2, ty_f3, ty_f4, ty_f5, ty_f6, ty_f7, ty_f8, ty_f9, ty_s0, ty_t1, ty_l1, ty_t2, ty_l2, ty_t3, ty_l3, ty_t11, ty_l11, ty_t12, ty_l12, ty_t13, ty_l13, ty_t14, ty_l14, bo_fs_len, bo_f0, bo_f1, bo_f2, bo_f3, bo_f4, bo_f5, bo_f6, bo_f7, bo_f8, bo_s0, ru_fs_len, ru_f0, ru_f1, ru_f2, ru_f3, ru_f4, ru_f5, ru_f6, ru_f7, ru_f8, ru_f9, ru_f10, ru_f11, ru_f12, ru_f13, ru_s0, ru_t2, ru_l2, ru_t3, ru_l3, ru_t4, ru_l4, ru_t5, ru_l5, ru_t10, ru_l10, ru_t11, ru_l11, ru_t12, ru_l12, ru_t13, ru_l13, ru_t14, ru_l14, ru_t15, ru_l15, lo_fs_len, lo_f0, lo_f1, lo_s0, rw_hit]
    repeat (refine And.intro (by omega) ?_)
    exact g.lo (al_le_of (by simp) (by simp))
  · refine am_go_of 30 [4, 9, 12, 31, 32] _ c_TS_go_13 ?_
    simp (maxSteps := 2000000) (disch := omega) only [c_TS_go_0, c_TS_go_1, c_TS_go_2, c_TS_go_3, c_TS_go_4, c_TS_go_5, c_TS_go_6, c_TS_go_7, c_TS_go_8, c_TS_go_9, c_TS_go_10, c_TS_go_11, c_TS_go_12, c_TS_go_13, c_TS_go_14, c_TS_go_15, c_TS_go_16, c_TS_go_17, c_TS_go_18, c_TS_go_19, c_TS_go_20, c_TS_go_21, c_TS_go_22, c_TS_go_23, c_TS_go_24, c_TS_go_25, c_TS_go_26, c_TS_go_27, c_TS_go_28, c_TS_go_29, c_TS_go_30, c_TS_go_31, c_TS_go_32, c_TS_go_33, c_TS_go_34, c_TS_go_35, c_TS_go_36, sx_aload_n, sx_bipush, sx_getfield, sx_goto, sx_iadd, sx_iconst, sx_ifCond_ne, sx_if_icmp_ge, sx_iinc, sx_iload, sx_iload_n, sx_imul, sx_irem, sx_ireturn, sx_istore, sx_istore_n, sx_iushr, sx_ldc, sx_zreturn, am_W_s, am_W_0, am_mm_some, List.mem_cons, or_false, false_or, or_self, or_true, true_or, reduceIte, if_false, if_true, am_o_some, am_o_none, am_o_bad, am_o_good, am_ldi_hit, am_ldi_miss, am_lda_hit, am_lda_miss, am_ldl_hit, am_ldl_miss, am_inc_eq, am_inc_hit, am_inc_miss, am_ob_hit, am_fd_0, am_fd_s, am_ai_hit, am_ab_3, am_al_hit, am_aq_4, am_al0_hit, am_put_1, am_put_2, am_put_put, am_up_hit, am_up_miss, am_s1_eq, am_s2_eq, am_fl_nil, am_fl_hit, am_fl_int, am_fl_ref, am_fl_long, am_fl_longx, am_fl2_nil, am_fl2_hit, am_fl2_hit1, am_fl2_int, am_fl2_ref, am_fl2_long, List.not_mem_nil, not_false_eq_true, ne_eq, Nat.reduceAdd, Nat.reduceEqDiff, Nat.zero_add, Nat.add_left_cancel_iff, List.set_cons_zero, List.set_cons_succ, List.length_cons, List.length_nil, Nat.reduceLT, am_ft_i, am_ft_r, am_ft_z, and_true, true_and, Option.toList_some, Option.toList_none, List.cons_append, List.nil_append, List.drop_succ_cons, List.drop_zero, iI_c, iI_b, iI_s, iI_n, iI_add, iI_sub, iI_mul, iI_neg, iI_nle, iI_ix, iI_eq0, iI_eq1, iI_lt0, iI_0lt, iI_le0, iI_0le, iI_eq, iI_lt, iI_le, iI_upd, iI_updZ, Int.reduceEq, Int.reduceLT, Int.reduceLE, Int.reduceNeg, Int.reduceNe, ez, ez2, hx, iI_div, ts_fs_len, ts_f0, ts_f1, ts_f2, ts_f3, ts_f4, ts_s4, ty_fs_len, ty_f0, ty_f1, ty_f2, ty_f3, ty_f4, ty_f5, ty_f6, ty_f7, ty_f8, ty_f9, ty_s0, ty_t1, ty_l1, ty_t2, ty_l2, ty_t3, ty_l3, ty_t11, ty_l11, ty_t12, ty_l12, ty_t13, ty_l13, ty_t14, ty_l14, bo_fs_len, bo_f0, bo_f1, bo_f2, bo_f3, bo_f4, bo_f5, bo_f6, bo_f7, bo_f8, bo_s0, ru_fs_len, ru_f0, ru_f1, ru_f2, ru_f3, ru_f4, ru_f5, ru_f6, ru_f7, ru_f8, ru_f9, ru_f10, ru_f11, ru_f12, ru_f13, ru_s0, ru_t2, ru_l2, ru_t3, ru_l3, ru_t4, ru_l4, ru_t5, ru_l5, ru_t10, ru_l10, ru_t11, ru_l11, ru_t12, ru_l12, ru_t13, ru_l13, ru_t14, ru_l14, ru_t15, ru_l15, lo_fs_len, lo_f0, lo_f1, lo_s0, rw_hit]
    repeat (refine And.intro (by omega) ?_)
    exact g.lo (al_le_of (by simp) (by simp))
  · refine am_go_of 30 [4, 9, 12, 31, 32] _ c_TS_go_13 ?_
    simp (maxSteps := 2000000) (disch := omega) only [c_TS_go_0, c_TS_go_1, c_TS_go_2, c_TS_go_3, c_TS_go_4, c_TS_go_5, c_TS_go_6, c_TS_go_7, c_TS_go_8, c_TS_go_9, c_TS_go_10, c_TS_go_11, c_TS_go_12, c_TS_go_13, c_TS_go_14, c_TS_go_15, c_TS_go_16, c_TS_go_17, c_TS_go_18, c_TS_go_19, c_TS_go_20, c_TS_go_21, c_TS_go_22, c_TS_go_23, c_TS_go_24, c_TS_go_25, c_TS_go_26, c_TS_go_27, c_TS_go_28, c_TS_go_29, c_TS_go_30, c_TS_go_31, c_TS_go_32, c_TS_go_33, c_TS_go_34, c_TS_go_35, c_TS_go_36, sx_aload_n, sx_bipush, sx_getfield, sx_goto, sx_iadd, sx_iconst, sx_ifCond_ne, sx_if_icmp_ge, sx_iinc, sx_iload, sx_iload_n, sx_imul, sx_irem, sx_ireturn, sx_istore, sx_istore_n, sx_iushr, sx_ldc, sx_zreturn, am_W_s, am_W_0, am_mm_some, List.mem_cons, or_false, false_or, or_self, or_true, true_or, reduceIte, if_false, if_true, am_o_some, am_o_none, am_o_bad, am_o_good, am_ldi_hit, am_ldi_miss, am_lda_hit, am_lda_miss, am_ldl_hit, am_ldl_miss, am_inc_eq, am_inc_hit, am_inc_miss, am_ob_hit, am_fd_0, am_fd_s, am_ai_hit, am_ab_3, am_al_hit, am_aq_4, am_al0_hit, am_put_1, am_put_2, am_put_put, am_up_hit, am_up_miss, am_s1_eq, am_s2_eq, am_fl_nil, am_fl_hit, am_fl_int, am_fl_ref, am_fl_long, am_fl_longx, am_fl2_nil, am_fl2_hit, am_fl2_hit1, am_fl2_int, am_fl2_ref, am_fl2_long, List.not_mem_nil, not_false_eq_true, ne_eq, Nat.reduceAdd, Nat.reduceEqDiff, Nat.zero_add, Nat.add_left_cancel_iff, List.set_cons_zero, List.set_cons_succ, List.length_cons, List.length_nil, Nat.reduceLT, am_ft_i, am_ft_r, am_ft_z, and_true, true_and, Option.toList_some, Option.toList_none, List.cons_append, List.nil_append, List.drop_succ_cons, List.drop_zero, iI_c, iI_b, iI_s, iI_n, iI_add, iI_sub, iI_mul, iI_neg, iI_nle, iI_ix, iI_eq0, iI_eq1, iI_lt0, iI_0lt, iI_le0, iI_0le, iI_eq, iI_lt, iI_le, iI_upd, iI_updZ, Int.reduceEq, Int.reduceLT, Int.reduceLE, Int.reduceNeg, Int.reduceNe, ez, ez2, hx, iI_div, ts_fs_len, ts_f0, ts_f1, ts_f2, ts_f3, ts_f4, ts_s4, ty_fs_len, ty_f0, ty_f1, ty_f2, ty_f3, ty_f4, ty_f5, ty_f6, ty_f7, ty_f8, ty_f9, ty_s0, ty_t1, ty_l1, ty_t2, ty_l2, ty_t3, ty_l3, ty_t11, ty_l11, ty_t12, ty_l12, ty_t13, ty_l13, ty_t14, ty_l14, bo_fs_len, bo_f0, bo_f1, bo_f2, bo_f3, bo_f4, bo_f5, bo_f6, bo_f7, bo_f8, bo_s0, ru_fs_len, ru_f0, ru_f1, ru_f2, ru_f3, ru_f4, ru_f5, ru_f6, ru_f7, ru_f8, ru_f9, ru_f10, ru_f11, ru_f12, ru_f13, ru_s0, ru_t2, ru_l2, ru_t3, ru_l3, ru_t4, ru_l4, ru_t5, ru_l5, ru_t10, ru_l10, ru_t11, ru_l11, ru_t12, ru_l12, ru_t13, ru_l13, ru_t14, ru_l14, ru_t15, ru_l15, lo_fs_len, lo_f0, lo_f1, lo_s0, rw_hit]
    repeat (refine And.intro (by omega) ?_)
    exact g.lo (al_le_of (by simp) (by simp))
set_option maxHeartbeats 8000000 in
/-- behind the choice: the STEP is made, and it goes on -/
theorem tg_step (d : Nat) (hd : 2 ≤ d) (h : am_H) (o : Nat) (z : Int32) (c s p t : Int) (hs : 0 ≤ s ∧ s < 8) (hp : 0 ≤ p ∧ p < 8) (hma : ma s p 3 0 0 = t) (v : Int) (tO : h.1 o = .inr (0, ts_fs o v)) (Q : Option Value → am_H → Prop)
    (g : am_Ct am_df am_MT d 45 [.ref o, .int (iI t)] h (fun r0 h' => r0 = none ∧ am_Go am_df am_MT d c_TS_go (4, [(3, .int (iI (c + 1))), (2, .int z), (0, .ref o)], [], h') Q)) : am_Go am_df am_MT d c_TS_go (31, [(3, .int (iI c)), (2, .int z), (0, .ref o)], [.int (iI p), .int (iI s), .ref o], h) Q := by
  refine am_go_call c_TS_go_31 (by decide) (by decide) (by first | (simp [am_can, am_kd, Value.category]; done) | (simp [am_can, am_kd, am_b, am_c, Value.category]; done) | (simp (disch := omega) [am_can, am_kd, am_b, am_c, Value.category, am_put_1, am_up_hit, am_up_miss]; done)) ?_
  refine (ct_memberAt d (by omega) h s p hs hp).mono (fun r9 h1 hr9 => ?_)
  obtain ⟨rfl, rfl⟩ := hr9
  rw [hma]
  refine am_go_call c_TS_go_32 (by decide) (by decide) (by first | (simp [am_can, am_kd, Value.category, tO]; done) | (simp [am_can, am_kd, am_b, am_c, Value.category, tO]; done) | (simp (disch := omega) [am_can, am_kd, am_b, am_c, Value.category, am_put_1, am_up_hit, am_up_miss, tO]; done)) ?_
  refine g.mono (fun r9 h2 hr9 => ?_)
  obtain ⟨rfl, g2⟩ := hr9
  refine am_go_of 10 [4, 9, 12, 31, 32] _ c_TS_go_33 ?_
  simp (maxSteps := 2000000) (disch := omega) only [c_TS_go_0, c_TS_go_1, c_TS_go_2, c_TS_go_3, c_TS_go_4, c_TS_go_5, c_TS_go_6, c_TS_go_7, c_TS_go_8, c_TS_go_9, c_TS_go_10, c_TS_go_11, c_TS_go_12, c_TS_go_13, c_TS_go_14, c_TS_go_15, c_TS_go_16, c_TS_go_17, c_TS_go_18, c_TS_go_19, c_TS_go_20, c_TS_go_21, c_TS_go_22, c_TS_go_23, c_TS_go_24, c_TS_go_25, c_TS_go_26, c_TS_go_27, c_TS_go_28, c_TS_go_29, c_TS_go_30, c_TS_go_31, c_TS_go_32, c_TS_go_33, c_TS_go_34, c_TS_go_35, c_TS_go_36, sx_aload_n, sx_bipush, sx_getfield, sx_goto, sx_iadd, sx_iconst, sx_ifCond_ne, sx_if_icmp_ge, sx_iinc, sx_iload, sx_iload_n, sx_imul, sx_irem, sx_ireturn, sx_istore, sx_istore_n, sx_iushr, sx_ldc, sx_zreturn, am_W_s, am_W_0, am_mm_some, List.mem_cons, or_false, false_or, or_self, or_true, true_or, reduceIte, if_false, if_true, am_o_some, am_o_none, am_o_bad, am_o_good, am_ldi_hit, am_ldi_miss, am_lda_hit, am_lda_miss, am_ldl_hit, am_ldl_miss, am_inc_eq, am_inc_hit, am_inc_miss, am_ob_hit, am_fd_0, am_fd_s, am_ai_hit, am_ab_3, am_al_hit, am_aq_4, am_al0_hit, am_put_1, am_put_2, am_put_put, am_up_hit, am_up_miss, am_s1_eq, am_s2_eq, am_fl_nil, am_fl_hit, am_fl_int, am_fl_ref, am_fl_long, am_fl_longx, am_fl2_nil, am_fl2_hit, am_fl2_hit1, am_fl2_int, am_fl2_ref, am_fl2_long, List.not_mem_nil, not_false_eq_true, ne_eq, Nat.reduceAdd, Nat.reduceEqDiff, Nat.zero_add, Nat.add_left_cancel_iff, List.set_cons_zero, List.set_cons_succ, List.length_cons, List.length_nil, Nat.reduceLT, am_ft_i, am_ft_r, am_ft_z, and_true, true_and, Option.toList_some, Option.toList_none, List.cons_append, List.nil_append, List.drop_succ_cons, List.drop_zero, iI_c, iI_b, iI_s, iI_n, iI_add, iI_sub, iI_mul, iI_neg, iI_nle, iI_ix, iI_eq0, iI_eq1, iI_lt0, iI_0lt, iI_le0, iI_0le, iI_eq, iI_lt, iI_le, iI_upd, iI_updZ, Int.reduceEq, Int.reduceLT, Int.reduceLE, Int.reduceNeg, Int.reduceNe, ts_fs_len, ts_f0, ts_f1, ts_f2, ts_f3, ts_f4, ts_s4, ty_fs_len, ty_f0, ty_f1, ty_f2, ty_f3, ty_f4, ty_f5, ty_f6, ty_f7, ty_f8, ty_f9, ty_s0, ty_t1, ty_l1, ty_t2, ty_l2, ty_t3, ty_l3, ty_t11, ty_l11, ty_t12, ty_l12, ty_t13, ty_l13, ty_t14, ty_l14, bo_fs_len, bo_f0, bo_f1, bo_f2, bo_f3, bo_f4, bo_f5, bo_f6, bo_f7, bo_f8, bo_s0, ru_fs_len, ru_f0, ru_f1, ru_f2, ru_f3, ru_f4, ru_f5, ru_f6, ru_f7, ru_f8, ru_f9, ru_f10, ru_f11, ru_f12, ru_f13, ru_s0, ru_t2, ru_l2, ru_t3, ru_l3, ru_t4, ru_l4, ru_t5, ru_l5, ru_t10, ru_l10, ru_t11, ru_l11, ru_t12, ru_l12, ru_t13, ru_l13, ru_t14, ru_l14, ru_t15, ru_l15, lo_fs_len, lo_f0, lo_f1, lo_s0, rw_hit]
  exact g2.lo (al_le_of (by simp) (by simp))
def tg_Q (h : am_H) (o : Nat) (N : Int) (A : Nat → Int → Int) (R : Nat → Int → Int → Int) (M : Int) (B : Nat → Int → Int) (K : Nat → Int → Int → Int) (c : Int) (I : Nat → Int) (F : Nat → Int → Int) (r : rn) (G : Int × (Nat → Int) × (Nat → Int → Int) × rn) (r0 : Option Value) (h' : am_H) : Prop := r0 = some (.int (iI G.1)) ∧ (G.1 = c → h' = h ∧ G = (c, I, F, r)) ∧ (G.1 ≠ c → ∃ n' m' X' S', tt_to h o (-1) N A R M B K n' m' X' S' h' ∧ ts_ok G.2.1 G.2.2.1 G.2.2.2 N A R M B K n' m' X' S')
theorem tg_none {h : am_H} {o : Nat} {N : Int} {A : Nat → Int → Int} {R : Nat → Int → Int → Int} {M : Int} {B : Nat → Int → Int} {K : Nat → Int → Int → Int} {c : Int} {I : Nat → Int} {F : Nat → Int → Int} {r : rn} : tg_Q h o N A R M B K c I F r (c, I, F, r) (some (.int (iI c))) h := ⟨rfl, fun _ => ⟨rfl, rfl⟩, fun z => absurd rfl z⟩
set_option maxHeartbeats 8000000 in
theorem lp_Tgo (d : Nat) (hd : 8 ≤ d) (o : Nat) (N : Int) (A : Nat → Int → Int) (R : Nat → Int → Int → Int) (M : Int) (B : Nat → Int → Int) (K : Nat → Int → Int → Int) : ∀ (k : Nat) (h : am_H) (v n m : Int) (X : Nat → Int → Int) (S : Int → Int → Int) (I : Nat → Int) (F : Nat → Int → Int) (r : rn) (z : Int32) (c : Int), ts_at h o v N A R M B K n m X S → md_ok I F r → I 3 = 1 → ts_ok I F r N A R M B K n m X S → mu 8 r < k → (0 ≤ c ∧ c + k = 67) →
    am_Go am_df am_MT d c_TS_go (4, [(3, .int (iI c)), (2, .int z), (0, .ref o)], [], h) (tg_Q h o N A R M B K c I F r (go_f k z c I F r)) := by
  intro k
  induction k with
  | zero =>
    intro h v n m X S I F r z c T hmd h3 hk hm hc0
    have := (mu_0 (a := 8) hmd.2.2.2.1.1 (by decide)).1
    omega
  | succ k ih =>
    intro h v n m X S I F r z c T hmd h3 hk hm hc0
    have hI := hmd.2.1.1
    have hN3 : (I 1).toNat ≤ 3 := by omega
    have hmb := mb_bt (F := F) (r := r) hN3
    have hmb0 := (mb_rg (F := F) (r := r) (I 1).toNat).1
    have hc1 := hc_0 (F := F) (r := r) (I 1).toNat 0
    by_cases c66 : 66 ≤ c
    · have hz := (mu_0 (a := 8) hmd.2.2.2.1.1 (by decide)).1
      have hck : c = 66 ∧ k = 0 := by omega
      have hmu : mu 8 r = 0 := by omega
      have hno : hc F r (I 1).toNat 0 = 0 := by
        by_cases q : hc F r (I 1).toNat 0 = 0
        · exact q
        · have hpk := pk_ok (F := F) (r := r) (I 1).toNat 0 0 (by omega)
          have hth : 0 ≤ pk F r (I 1).toNat 0 0 ∧ pk F r (I 1).toNat 0 0 < I 1 := by omega
          have hen := (hv1_en (F := F) (r := r) ⟨hth.1, by omega⟩ hpk.2.2).1
          have hmk := mk_ok hmd hth hen
          have := (mu_0 (a := 8) hmk.1.2.2.2.1.1 (by decide)).1
          omega
      have eq : go_f (k + 1) z c I F r = (c, I, F, r) := if_pos hno
      rw [eq, hck.1]
      clear ih hmb hmd hk T
      refine am_go_of 10 [4, 9, 12, 31, 32] _ c_TS_go_4 ?_
      simp (maxSteps := 2000000) (disch := omega) only [c_TS_go_0, c_TS_go_1, c_TS_go_2, c_TS_go_3, c_TS_go_4, c_TS_go_5, c_TS_go_6, c_TS_go_7, c_TS_go_8, c_TS_go_9, c_TS_go_10, c_TS_go_11, c_TS_go_12, c_TS_go_13, c_TS_go_14, c_TS_go_15, c_TS_go_16, c_TS_go_17, c_TS_go_18, c_TS_go_19, c_TS_go_20, c_TS_go_21, c_TS_go_22, c_TS_go_23, c_TS_go_24, c_TS_go_25, c_TS_go_26, c_TS_go_27, c_TS_go_28, c_TS_go_29, c_TS_go_30, c_TS_go_31, c_TS_go_32, c_TS_go_33, c_TS_go_34, c_TS_go_35, c_TS_go_36, sx_aload_n, sx_bipush, sx_getfield, sx_goto, sx_iadd, sx_iconst, sx_ifCond_ne, sx_if_icmp_ge, sx_iinc, sx_iload, sx_iload_n, sx_imul, sx_irem, sx_ireturn, sx_istore, sx_istore_n, sx_iushr, sx_ldc, sx_zreturn, am_W_s, am_W_0, am_mm_some, List.mem_cons, or_false, false_or, or_self, or_true, true_or, reduceIte, if_false, if_true, am_o_some, am_o_none, am_o_bad, am_o_good, am_ldi_hit, am_ldi_miss, am_lda_hit, am_lda_miss, am_ldl_hit, am_ldl_miss, am_inc_eq, am_inc_hit, am_inc_miss, am_ob_hit, am_fd_0, am_fd_s, am_ai_hit, am_ab_3, am_al_hit, am_aq_4, am_al0_hit, am_put_1, am_put_2, am_put_put, am_up_hit, am_up_miss, am_s1_eq, am_s2_eq, am_fl_nil, am_fl_hit, am_fl_int, am_fl_ref, am_fl_long, am_fl_longx, am_fl2_nil, am_fl2_hit, am_fl2_hit1, am_fl2_int, am_fl2_ref, am_fl2_long, List.not_mem_nil, not_false_eq_true, ne_eq, Nat.reduceAdd, Nat.reduceEqDiff, Nat.zero_add, Nat.add_left_cancel_iff, List.set_cons_zero, List.set_cons_succ, List.length_cons, List.length_nil, Nat.reduceLT, am_ft_i, am_ft_r, am_ft_z, and_true, true_and, Option.toList_some, Option.toList_none, List.cons_append, List.nil_append, List.drop_succ_cons, List.drop_zero, iI_c, iI_b, iI_s, iI_n, iI_add, iI_sub, iI_mul, iI_neg, iI_nle, iI_ix, iI_eq0, iI_eq1, iI_lt0, iI_0lt, iI_le0, iI_0le, iI_eq, iI_lt, iI_le, iI_upd, iI_updZ, Int.reduceEq, Int.reduceLT, Int.reduceLE, Int.reduceNeg, Int.reduceNe, ts_fs_len, ts_f0, ts_f1, ts_f2, ts_f3, ts_f4, ts_s4, ty_fs_len, ty_f0, ty_f1, ty_f2, ty_f3, ty_f4, ty_f5, ty_f6, ty_f7, ty_f8, ty_f9, ty_s0, ty_t1, ty_l1, ty_t2, ty_l2, ty_t3, ty_l3, ty_t11, ty_l11, ty_t12, ty_l12, ty_t13, ty_l13, ty_t14, ty_l14, bo_fs_len, bo_f0, bo_f1, bo_f2, bo_f3, bo_f4, bo_f5, bo_f6, bo_f7, bo_f8, bo_s0, ru_fs_len, ru_f0, ru_f1, ru_f2, ru_f3, ru_f4, ru_f5, ru_f6, ru_f7, ru_f8, ru_f9, ru_f10, ru_f11, ru_f12, ru_f13, ru_s0, ru_t2, ru_l2, ru_t3, ru_l3, ru_t4, ru_l4, ru_t5, ru_l5, ru_t10, ru_l10, ru_t11, ru_l11, ru_t12, ru_l12, ru_t13, ru_l13, ru_t14, ru_l14, ru_t15, ru_l15, lo_fs_len, lo_f0, lo_f1, lo_s0, rw_hit]
      exact tg_none
    · obtain ⟨t0, tO, E, H⟩ := T
      have T : ts_at h o v N A R M B K n m X S := ⟨t0, tO, E, H⟩
      have hO := H.2.1
      have hk' := hk
      obtain ⟨hT, hBo, ho, en, em, el⟩ := hk'
      have hab := ct_able d (by omega) h (o + 76) (o + 1) (o + 23) n m X S H N A R M B K E I F hmd.2.1 hT hBo r hmd.2.2.2.1 ho
      have hbc := ct_bitCount d (by omega) h (mb F r (I 1).toNat) ⟨hmb0, hmb.1⟩
      rw [pc_hc hN3] at hbc
      /- from the count on -/
      have rest : am_Go am_df am_MT d c_TS_go (13, [(4, .int (iI (mb F r (I 1).toNat))), (3, .int (iI c)), (2, .int z), (0, .ref o)], [.int (iI (hc F r (I 1).toNat 0))], h) (tg_Q h o N A R M B K c I F r (go_f (k + 1) z c I F r)) := by
        by_cases cz : hc F r (I 1).toNat 0 = 0
        · have eq : go_f (k + 1) z c I F r = (c, I, F, r) := if_pos cz
          rw [eq, cz]
          clear ih hmb hmd hk T hab hbc
          refine am_go_of 10 [4, 9, 12, 31, 32] _ c_TS_go_13 ?_
          simp (maxSteps := 2000000) (disch := omega) only [c_TS_go_0, c_TS_go_1, c_TS_go_2, c_TS_go_3, c_TS_go_4, c_TS_go_5, c_TS_go_6, c_TS_go_7, c_TS_go_8, c_TS_go_9, c_TS_go_10, c_TS_go_11, c_TS_go_12, c_TS_go_13, c_TS_go_14, c_TS_go_15, c_TS_go_16, c_TS_go_17, c_TS_go_18, c_TS_go_19, c_TS_go_20, c_TS_go_21, c_TS_go_22, c_TS_go_23, c_TS_go_24, c_TS_go_25, c_TS_go_26, c_TS_go_27, c_TS_go_28, c_TS_go_29, c_TS_go_30, c_TS_go_31, c_TS_go_32, c_TS_go_33, c_TS_go_34, c_TS_go_35, c_TS_go_36, sx_aload_n, sx_bipush, sx_getfield, sx_goto, sx_iadd, sx_iconst, sx_ifCond_ne, sx_if_icmp_ge, sx_iinc, sx_iload, sx_iload_n, sx_imul, sx_irem, sx_ireturn, sx_istore, sx_istore_n, sx_iushr, sx_ldc, sx_zreturn, am_W_s, am_W_0, am_mm_some, List.mem_cons, or_false, false_or, or_self, or_true, true_or, reduceIte, if_false, if_true, am_o_some, am_o_none, am_o_bad, am_o_good, am_ldi_hit, am_ldi_miss, am_lda_hit, am_lda_miss, am_ldl_hit, am_ldl_miss, am_inc_eq, am_inc_hit, am_inc_miss, am_ob_hit, am_fd_0, am_fd_s, am_ai_hit, am_ab_3, am_al_hit, am_aq_4, am_al0_hit, am_put_1, am_put_2, am_put_put, am_up_hit, am_up_miss, am_s1_eq, am_s2_eq, am_fl_nil, am_fl_hit, am_fl_int, am_fl_ref, am_fl_long, am_fl_longx, am_fl2_nil, am_fl2_hit, am_fl2_hit1, am_fl2_int, am_fl2_ref, am_fl2_long, List.not_mem_nil, not_false_eq_true, ne_eq, Nat.reduceAdd, Nat.reduceEqDiff, Nat.zero_add, Nat.add_left_cancel_iff, List.set_cons_zero, List.set_cons_succ, List.length_cons, List.length_nil, Nat.reduceLT, am_ft_i, am_ft_r, am_ft_z, and_true, true_and, Option.toList_some, Option.toList_none, List.cons_append, List.nil_append, List.drop_succ_cons, List.drop_zero, iI_c, iI_b, iI_s, iI_n, iI_add, iI_sub, iI_mul, iI_neg, iI_nle, iI_ix, iI_eq0, iI_eq1, iI_lt0, iI_0lt, iI_le0, iI_0le, iI_eq, iI_lt, iI_le, iI_upd, iI_updZ, Int.reduceEq, Int.reduceLT, Int.reduceLE, Int.reduceNeg, Int.reduceNe, ts_fs_len, ts_f0, ts_f1, ts_f2, ts_f3, ts_f4, ts_s4, ty_fs_len, ty_f0, ty_f1, ty_f2, ty_f3, ty_f4, ty_f5, ty_f6, ty_f7, ty_f8, ty_f9, ty_s0, ty_t1, ty_l1, ty_t2, ty_l2, ty_t3, ty_l3, ty_t11, ty_l11, ty_t12, ty_l12, ty_t13, ty_l13, ty_t14, ty_l14, bo_fs_len, bo_f0, bo_f1, bo_f2, bo_f3, bo_f4, bo_f5, bo_f6, bo_f7, bo_f8, bo_s0, ru_fs_len, ru_f0, ru_f1, ru_f2, ru_f3, ru_f4, ru_f5, ru_f6, ru_f7, ru_f8, ru_f9, ru_f10, ru_f11, ru_f12, ru_f13, ru_s0, ru_t2, ru_l2, ru_t3, ru_l3, ru_t4, ru_l4, ru_t5, ru_l5, ru_t10, ru_l10, ru_t11, ru_l11, ru_t12, ru_l12, ru_t13, ru_l13, ru_t14, ru_l14, ru_t15, ru_l15, lo_fs_len, lo_f0, lo_f1, lo_s0, rw_hit]
          exact tg_none
        · have eq : go_f (k + 1) z c I F r = go_f k (gz z) (c + 1) (mk_J I F r (go_h I F r z)) (mk_F I F r (go_h I F r z)) (sq_steps F r (go_h I F r z)).1 := if_neg cz
          have hnp : 1 ≤ hc F r (I 1).toNat 0 ∧ hc F r (I 1).toNat 0 ≤ 3 := by omega
          have hn3 : hc F r (I 1).toNat 0 = 1 ∨ hc F r (I 1).toNat 0 = 2 ∨ hc F r (I 1).toNat 0 = 3 := by omega
          have hgo : go_h I F r z = pk F r (I 1).toNat 0 (gp (gz z) (hc F r (I 1).toNat 0)) := rfl
          have hp := gp_rg (z := gz z) hnp
          have pick := tg_pick d h o z c (mb F r (I 1).toNat) (hc F r (I 1).toNat 0) hn3 (tg_Q h o N A R M B K c I F r (go_f (k + 1) z c I F r))
          refine pick ?_
          clear pick
          generalize gp (gz z) (hc F r (I 1).toNat 0) = pp at *
          have hpk := pk_ok (F := F) (r := r) (I 1).toNat 0 pp hp
          rw [← hgo] at hpk
          have hma : ma (mb F r (I 1).toNat) pp 3 0 0 = go_h I F r z := by
            have := ma_pk (F := F) (r := r) hN3 (p := pp) 3 0 0 (by decide) (by
              show pp < 0 + hc F r ((I 1).toNat - 0) 0
              rw [Nat.sub_zero, Int.zero_add]
              exact hp.2) hp.1
            rw [Nat.sub_zero, Int.sub_zero] at this
            rw [hgo]
            exact this
          rw [eq]
          clear eq hgo
          generalize gz z = zz at *
          generalize go_h I F r z = th at *
          have hth : 0 ≤ th ∧ th < I 1 := ⟨hpk.1, by omega⟩
          have hen := (hv1_en (F := F) (r := r) ⟨hth.1, by omega⟩ hpk.2.2).1
          have hmk := mk_ok hmd hth hen
          have hge := go_f_ge k zz (c + 1) (mk_J I F r th) (mk_F I F r th) (sq_steps F r th).1
          have mst := ct_makeStep d (by omega) h o v N A R M B K n m X S T I F r hmd h3 hk th hth hpk.2.2
          have h31 : mk_J I F r th 3 = 1 := (mk_J_k (by decide) (by decide) (by decide)).trans h3
          have ihx := fun (h4 : am_H) (n1 m1 : Int) (X1 : Nat → Int → Int) (S1 : Int → Int → Int) (w : ts_at h4 o (-1) N A R M B K n1 m1 X1 S1) (hk1 : ts_ok (mk_J I F r th) (mk_F I F r th) (sq_steps F r th).1 N A R M B K n1 m1 X1 S1) => ih h4 (-1) n1 m1 X1 S1 _ _ _ zz (c + 1) w hmk.1 h31 hk1 (by have := hmk.2; omega) ⟨by omega, by omega⟩
          clear ih hmd hk T hab hbc hmk h31 hpk hen
          generalize go_f k zz (c + 1) (mk_J I F r th) (mk_F I F r th) (sq_steps F r th).1 = G at *
          generalize mk_J I F r th = J1 at *
          generalize mk_F I F r th = F1 at *
          generalize (sq_steps F r th).1 = r1 at *
          have hp8 : 0 ≤ pp ∧ pp < 8 := ⟨hp.1, by omega⟩
          refine tg_step d (by omega) h o zz c (mb F r (I 1).toNat) pp th ⟨hmb0, hmb.1⟩ hp8 hma v tO _ ?_
          refine mst.mono (fun r9 h4 hr9 => ?_)
          obtain ⟨q0, n1, m1, X1, S1, w, hk1⟩ := hr9
          refine ⟨q0, (ihx h4 n1 m1 X1 S1 w.1 hk1).mono (fun r0 h5 q => ?_)⟩
          obtain ⟨q0, q1, q2⟩ := q
          refine ⟨q0, fun z => by omega, fun _ => ?_⟩
          by_cases cc : G.1 = c + 1
          · have y := q1 cc
            rw [y.2, y.1]
            exact ⟨n1, m1, X1, S1, w, hk1⟩
          · obtain ⟨n2, m2, X2, S2, w2, hk2⟩ := q2 cc
            exact ⟨n2, m2, X2, S2, w.tr w2, hk2⟩
      clear ih hmb hmd hk T hT hBo ho el
      generalize tg_Q h o N A R M B K c I F r (go_f (k + 1) z c I F r) = Q at *
      refine am_go_of 10 [4, 9, 12, 31, 32] _ c_TS_go_4 ?_
      simp (maxSteps := 2000000) (disch := omega) only [c_TS_go_0, c_TS_go_1, c_TS_go_2, c_TS_go_3, c_TS_go_4, c_TS_go_5, c_TS_go_6, c_TS_go_7, c_TS_go_8, c_TS_go_9, c_TS_go_10, c_TS_go_11, c_TS_go_12, c_TS_go_13, c_TS_go_14, c_TS_go_15, c_TS_go_16, c_TS_go_17, c_TS_go_18, c_TS_go_19, c_TS_go_20, c_TS_go_21, c_TS_go_22, c_TS_go_23, c_TS_go_24, c_TS_go_25, c_TS_go_26, c_TS_go_27, c_TS_go_28, c_TS_go_29, c_TS_go_30, c_TS_go_31, c_TS_go_32, c_TS_go_33, c_TS_go_34, c_TS_go_35, c_TS_go_36, sx_aload_n, sx_bipush, sx_getfield, sx_goto, sx_iadd, sx_iconst, sx_ifCond_ne, sx_if_icmp_ge, sx_iinc, sx_iload, sx_iload_n, sx_imul, sx_irem, sx_ireturn, sx_istore, sx_istore_n, sx_iushr, sx_ldc, sx_zreturn, am_W_s, am_W_0, am_mm_some, List.mem_cons, or_false, false_or, or_self, or_true, true_or, reduceIte, if_false, if_true, am_o_some, am_o_none, am_o_bad, am_o_good, am_ldi_hit, am_ldi_miss, am_lda_hit, am_lda_miss, am_ldl_hit, am_ldl_miss, am_inc_eq, am_inc_hit, am_inc_miss, am_ob_hit, am_fd_0, am_fd_s, am_ai_hit, am_ab_3, am_al_hit, am_aq_4, am_al0_hit, am_put_1, am_put_2, am_put_put, am_up_hit, am_up_miss, am_s1_eq, am_s2_eq, am_fl_nil, am_fl_hit, am_fl_int, am_fl_ref, am_fl_long, am_fl_longx, am_fl2_nil, am_fl2_hit, am_fl2_hit1, am_fl2_int, am_fl2_ref, am_fl2_long, List.not_mem_nil, not_false_eq_true, ne_eq, Nat.reduceAdd, Nat.reduceEqDiff, Nat.zero_add, Nat.add_left_cancel_iff, List.set_cons_zero, List.set_cons_succ, List.length_cons, List.length_nil, Nat.reduceLT, am_ft_i, am_ft_r, am_ft_z, and_true, true_and, Option.toList_some, Option.toList_none, List.cons_append, List.nil_append, List.drop_succ_cons, List.drop_zero, iI_c, iI_b, iI_s, iI_n, iI_add, iI_sub, iI_mul, iI_neg, iI_nle, iI_ix, iI_eq0, iI_eq1, iI_lt0, iI_0lt, iI_le0, iI_0le, iI_eq, iI_lt, iI_le, iI_upd, iI_updZ, Int.reduceEq, Int.reduceLT, Int.reduceLE, Int.reduceNeg, Int.reduceNe, tO, c66, ts_fs_len, ts_f0, ts_f1, ts_f2, ts_f3, ts_f4, ts_s4, ty_fs_len, ty_f0, ty_f1, ty_f2, ty_f3, ty_f4, ty_f5, ty_f6, ty_f7, ty_f8, ty_f9, ty_s0, ty_t1, ty_l1, ty_t2, ty_l2, ty_t3, ty_l3, ty_t11, ty_l11, ty_t12, ty_l12, ty_t13, ty_l13, ty_t14, ty_l14, bo_fs_len, bo_f0, bo_f1, bo_f2, bo_f3, bo_f4, bo_f5, bo_f6, bo_f7, bo_f8, bo_s0, ru_fs_len, ru_f0, ru_f1, ru_f2, ru_f3, ru_f4, ru_f5, ru_f6, ru_f7, ru_f8, ru_f9, ru_f10, ru_f11, ru_f12, ru_f13, ru_s0, ru_t2, ru_l2, ru_t3, ru_l3, ru_t4, ru_l4, ru_t5, ru_l5, ru_t10, ru_l10, ru_t11, ru_l11, ru_t12, ru_l12, ru_t13, ru_l13, ru_t14, ru_l14, ru_t15, ru_l15, lo_fs_len, lo_f0, lo_f1, lo_s0, rw_hit]
      refine am_go_call c_TS_go_9 (by decide) (by decide) (by first | (simp [am_can, am_kd, Value.category, hO]; done) | (simp [am_can, am_kd, am_b, am_c, Value.category, hO]; done) | (simp (disch := omega) [am_can, am_kd, am_b, am_c, Value.category, am_put_1, am_up_hit, am_up_miss, hO]; done)) ?_
      refine hab.mono (fun r9 h1 hr9 => ?_)
      obtain ⟨rfl, rfl⟩ := hr9
      refine am_go_of 10 [4, 9, 12, 31, 32] _ c_TS_go_10 ?_
      simp (maxSteps := 2000000) (disch := omega) only [c_TS_go_0, c_TS_go_1, c_TS_go_2, c_TS_go_3, c_TS_go_4, c_TS_go_5, c_TS_go_6, c_TS_go_7, c_TS_go_8, c_TS_go_9, c_TS_go_10, c_TS_go_11, c_TS_go_12, c_TS_go_13, c_TS_go_14, c_TS_go_15, c_TS_go_16, c_TS_go_17, c_TS_go_18, c_TS_go_19, c_TS_go_20, c_TS_go_21, c_TS_go_22, c_TS_go_23, c_TS_go_24, c_TS_go_25, c_TS_go_26, c_TS_go_27, c_TS_go_28, c_TS_go_29, c_TS_go_30, c_TS_go_31, c_TS_go_32, c_TS_go_33, c_TS_go_34, c_TS_go_35, c_TS_go_36, sx_aload_n, sx_bipush, sx_getfield, sx_goto, sx_iadd, sx_iconst, sx_ifCond_ne, sx_if_icmp_ge, sx_iinc, sx_iload, sx_iload_n, sx_imul, sx_irem, sx_ireturn, sx_istore, sx_istore_n, sx_iushr, sx_ldc, sx_zreturn, am_W_s, am_W_0, am_mm_some, List.mem_cons, or_false, false_or, or_self, or_true, true_or, reduceIte, if_false, if_true, am_o_some, am_o_none, am_o_bad, am_o_good, am_ldi_hit, am_ldi_miss, am_lda_hit, am_lda_miss, am_ldl_hit, am_ldl_miss, am_inc_eq, am_inc_hit, am_inc_miss, am_ob_hit, am_fd_0, am_fd_s, am_ai_hit, am_ab_3, am_al_hit, am_aq_4, am_al0_hit, am_put_1, am_put_2, am_put_put, am_up_hit, am_up_miss, am_s1_eq, am_s2_eq, am_fl_nil, am_fl_hit, am_fl_int, am_fl_ref, am_fl_long, am_fl_longx, am_fl2_nil, am_fl2_hit, am_fl2_hit1, am_fl2_int, am_fl2_ref, am_fl2_long, List.not_mem_nil, not_false_eq_true, ne_eq, Nat.reduceAdd, Nat.reduceEqDiff, Nat.zero_add, Nat.add_left_cancel_iff, List.set_cons_zero, List.set_cons_succ, List.length_cons, List.length_nil, Nat.reduceLT, am_ft_i, am_ft_r, am_ft_z, and_true, true_and, Option.toList_some, Option.toList_none, List.cons_append, List.nil_append, List.drop_succ_cons, List.drop_zero, iI_c, iI_b, iI_s, iI_n, iI_add, iI_sub, iI_mul, iI_neg, iI_nle, iI_ix, iI_eq0, iI_eq1, iI_lt0, iI_0lt, iI_le0, iI_0le, iI_eq, iI_lt, iI_le, iI_upd, iI_updZ, Int.reduceEq, Int.reduceLT, Int.reduceLE, Int.reduceNeg, Int.reduceNe, ts_fs_len, ts_f0, ts_f1, ts_f2, ts_f3, ts_f4, ts_s4, ty_fs_len, ty_f0, ty_f1, ty_f2, ty_f3, ty_f4, ty_f5, ty_f6, ty_f7, ty_f8, ty_f9, ty_s0, ty_t1, ty_l1, ty_t2, ty_l2, ty_t3, ty_l3, ty_t11, ty_l11, ty_t12, ty_l12, ty_t13, ty_l13, ty_t14, ty_l14, bo_fs_len, bo_f0, bo_f1, bo_f2, bo_f3, bo_f4, bo_f5, bo_f6, bo_f7, bo_f8, bo_s0, ru_fs_len, ru_f0, ru_f1, ru_f2, ru_f3, ru_f4, ru_f5, ru_f6, ru_f7, ru_f8, ru_f9, ru_f10, ru_f11, ru_f12, ru_f13, ru_s0, ru_t2, ru_l2, ru_t3, ru_l3, ru_t4, ru_l4, ru_t5, ru_l5, ru_t10, ru_l10, ru_t11, ru_l11, ru_t12, ru_l12, ru_t13, ru_l13, ru_t14, ru_l14, ru_t15, ru_l15, lo_fs_len, lo_f0, lo_f1, lo_s0, rw_hit]
      refine am_go_call c_TS_go_12 (by decide) (by decide) (by first | (simp [am_can, am_kd, Value.category]; done) | (simp [am_can, am_kd, am_b, am_c, Value.category]; done) | (simp (disch := omega) [am_can, am_kd, am_b, am_c, Value.category, am_put_1, am_up_hit, am_up_miss]; done)) ?_
      refine hbc.mono (fun r9 h2 hr9 => ?_)
      obtain ⟨rfl, rfl⟩ := hr9
      exact rest.lo (al_le_of (by simp) (by simp))
set_option maxHeartbeats 8000000 in
theorem ct_Tgo (d : Nat) (hd : 9 ≤ d) (h : am_H) (o : Nat) (v N : Int) (A : Nat → Int → Int) (R : Nat → Int → Int → Int) (M : Int) (B : Nat → Int → Int) (K : Nat → Int → Int → Int) (n m : Int) (X : Nat → Int → Int) (S : Int → Int → Int) (T : ts_at h o v N A R M B K n m X S) (I : Nat → Int) (F : Nat → Int → Int) (r : rn) (hmd : md_ok I F r) (h3 : I 3 = 1) (hk : ts_ok I F r N A R M B K n m X S) (z : Int32) : am_Ct am_df am_MT d 56 [.ref o, .int z] h (tg_Q h o N A R M B K 0 I F r (go_f 67 z 0 I F r)) := by
  have := (mu_0 (a := 8) hmd.2.2.2.1.1 (by decide)).2
  rw [if_neg (by decide)] at this
  obtain ⟨d, rfl⟩ : ∃ e, d = e + 1 := ⟨d - 1, by omega⟩
  refine am_ct_of2 mt_TS_go (Nat.le_of_ble_eq_true rfl) ?_
  simp only [ar_nil, ar_int, ar_ref, ar_long, Nat.reduceAdd]
  refine am_go_of 10 [4, 9, 12, 31, 32] _ c_TS_go_0 ?_
  simp (maxSteps := 2000000) (disch := omega) only [c_TS_go_0, c_TS_go_1, c_TS_go_2, c_TS_go_3, c_TS_go_4, c_TS_go_5, c_TS_go_6, c_TS_go_7, c_TS_go_8, c_TS_go_9, c_TS_go_10, c_TS_go_11, c_TS_go_12, c_TS_go_13, c_TS_go_14, c_TS_go_15, c_TS_go_16, c_TS_go_17, c_TS_go_18, c_TS_go_19, c_TS_go_20, c_TS_go_21, c_TS_go_22, c_TS_go_23, c_TS_go_24, c_TS_go_25, c_TS_go_26, c_TS_go_27, c_TS_go_28, c_TS_go_29, c_TS_go_30, c_TS_go_31, c_TS_go_32, c_TS_go_33, c_TS_go_34, c_TS_go_35, c_TS_go_36, sx_aload_n, sx_bipush, sx_getfield, sx_goto, sx_iadd, sx_iconst, sx_ifCond_ne, sx_if_icmp_ge, sx_iinc, sx_iload, sx_iload_n, sx_imul, sx_irem, sx_ireturn, sx_istore, sx_istore_n, sx_iushr, sx_ldc, sx_zreturn, am_W_s, am_W_0, am_mm_some, List.mem_cons, or_false, false_or, or_self, or_true, true_or, reduceIte, if_false, if_true, am_o_some, am_o_none, am_o_bad, am_o_good, am_ldi_hit, am_ldi_miss, am_lda_hit, am_lda_miss, am_ldl_hit, am_ldl_miss, am_inc_eq, am_inc_hit, am_inc_miss, am_ob_hit, am_fd_0, am_fd_s, am_ai_hit, am_ab_3, am_al_hit, am_aq_4, am_al0_hit, am_put_1, am_put_2, am_put_put, am_up_hit, am_up_miss, am_s1_eq, am_s2_eq, am_fl_nil, am_fl_hit, am_fl_int, am_fl_ref, am_fl_long, am_fl_longx, am_fl2_nil, am_fl2_hit, am_fl2_hit1, am_fl2_int, am_fl2_ref, am_fl2_long, List.not_mem_nil, not_false_eq_true, ne_eq, Nat.reduceAdd, Nat.reduceEqDiff, Nat.zero_add, Nat.add_left_cancel_iff, List.set_cons_zero, List.set_cons_succ, List.length_cons, List.length_nil, Nat.reduceLT, am_ft_i, am_ft_r, am_ft_z, and_true, true_and, Option.toList_some, Option.toList_none, List.cons_append, List.nil_append, List.drop_succ_cons, List.drop_zero, iI_c, iI_b, iI_s, iI_n, iI_add, iI_sub, iI_mul, iI_neg, iI_nle, iI_ix, iI_eq0, iI_eq1, iI_lt0, iI_0lt, iI_le0, iI_0le, iI_eq, iI_lt, iI_le, iI_upd, iI_updZ, Int.reduceEq, Int.reduceLT, Int.reduceLE, Int.reduceNeg, Int.reduceNe, ts_fs_len, ts_f0, ts_f1, ts_f2, ts_f3, ts_f4, ts_s4, ty_fs_len, ty_f0, ty_f1, ty_f2, ty_f3, ty_f4, ty_f5, ty_f6, ty_f7, ty_f8, ty_f9, ty_s0, ty_t1, ty_l1, ty_t2, ty_l2, ty_t3, ty_l3, ty_t11, ty_l11, ty_t12, ty_l12, ty_t13, ty_l13, ty_t14, ty_l14, bo_fs_len, bo_f0, bo_f1, bo_f2, bo_f3, bo_f4, bo_f5, bo_f6, bo_f7, bo_f8, bo_s0, ru_fs_len, ru_f0, ru_f1, ru_f2, ru_f3, ru_f4, ru_f5, ru_f6, ru_f7, ru_f8, ru_f9, ru_f10, ru_f11, ru_f12, ru_f13, ru_s0, ru_t2, ru_l2, ru_t3, ru_l3, ru_t4, ru_l4, ru_t5, ru_l5, ru_t10, ru_l10, ru_t11, ru_l11, ru_t12, ru_l12, ru_t13, ru_l13, ru_t14, ru_l14, ru_t15, ru_l15, lo_fs_len, lo_f0, lo_f1, lo_s0, rw_hit]
  exact (lp_Tgo d (by omega) o N A R M B K 67 h v n m X S I F r z 0 T hmd h3 hk (by omega) (by decide)).lo (al_le_of (by simp) (by simp))
