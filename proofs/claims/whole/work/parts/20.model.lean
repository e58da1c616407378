theorem mt_Md_within : am_MT[108]? = some m_Md_within := rfl
theorem c_Md_within_0 : c_Md_within[0]? = some (0, 1, .iload_n 0, 0, 0, 0, 0, 0, []) := Eq.trans rfl rfl
theorem c_Md_within_1 : c_Md_within[1]? = some (1, 1, .iload_n 1, 1, 0, 0, 0, 0, []) := Eq.trans rfl rfl
theorem c_Md_within_2 : c_Md_within[2]? = some (2, 3, .if_icmp .lt 12, 8, 0, 0, 0, 0, []) := Eq.trans rfl rfl
theorem c_Md_within_3 : c_Md_within[3]? = some (5, 1, .iload_n 0, 0, 0, 0, 0, 0, []) := Eq.trans rfl rfl
theorem c_Md_within_4 : c_Md_within[4]? = some (6, 1, .iload_n 2, 2, 0, 0, 0, 0, []) := Eq.trans rfl rfl
theorem c_Md_within_5 : c_Md_within[5]? = some (7, 3, .if_icmp .gt 7, 8, 0, 0, 0, 0, []) := Eq.trans rfl rfl
theorem c_Md_within_6 : c_Md_within[6]? = some (10, 1, .iconst 1, 0, 0, 0, 0, 0, []) := Eq.trans rfl rfl
theorem c_Md_within_7 : c_Md_within[7]? = some (11, 3, .goto 4, 9, 0, 0, 0, 0, []) := Eq.trans rfl rfl
theorem c_Md_within_8 : c_Md_within[8]? = some (14, 1, .iconst 0, 0, 0, 0, 0, 0, []) := Eq.trans rfl rfl
theorem c_Md_within_9 : c_Md_within[9]? = some (15, 1, .ireturn, 0, 0, 0, 3, 0, []) := Eq.trans rfl rfl
theorem mt_Md_isType : am_MT[107]? = some m_Md_isType := rfl
theorem c_Md_isType_0 : c_Md_isType[0]? = some (0, 1, .iload_n 1, 1, 0, 0, 0, 0, []) := Eq.trans rfl rfl
theorem c_Md_isType_1 : c_Md_isType[1]? = some (1, 1, .iconst 0, 0, 0, 0, 0, 0, []) := Eq.trans rfl rfl
theorem c_Md_isType_2 : c_Md_isType[2]? = some (2, 1, .aload_n 0, 0, 0, 0, 0, 0, []) := Eq.trans rfl rfl
theorem c_Md_isType_3 : c_Md_isType[3]? = some (3, 3, .getfield 103, 8, 0, 0, 0, 757, []) := Eq.trans rfl rfl
theorem c_Md_isType_4 : c_Md_isType[4]? = some (6, 1, .iconst 1, 0, 0, 0, 0, 0, []) := Eq.trans rfl rfl
theorem c_Md_isType_5 : c_Md_isType[5]? = some (7, 1, .isub, 0, 0, 0, 0, 0, []) := Eq.trans rfl rfl
theorem c_Md_isType_6 : c_Md_isType[6]? = some (8, 3, .invokestatic 107, 108, 3, 0, 0, 874, []) := Eq.trans rfl rfl
theorem c_Md_isType_7 : c_Md_isType[7]? = some (11, 1, .ireturn, 0, 0, 0, 3, 0, []) := Eq.trans rfl rfl
theorem mt_Md_isThread : am_MT[118]? = some m_Md_isThread := rfl
theorem c_Md_isThread_0 : c_Md_isThread[0]? = some (0, 1, .iload_n 1, 1, 0, 0, 0, 0, []) := Eq.trans rfl rfl
theorem c_Md_isThread_1 : c_Md_isThread[1]? = some (1, 1, .iconst 0, 0, 0, 0, 0, 0, []) := Eq.trans rfl rfl
theorem c_Md_isThread_2 : c_Md_isThread[2]? = some (2, 1, .aload_n 0, 0, 0, 0, 0, 0, []) := Eq.trans rfl rfl
theorem c_Md_isThread_3 : c_Md_isThread[3]? = some (3, 3, .getfield 111, 8, 1, 0, 0, 758, []) := Eq.trans rfl rfl
theorem c_Md_isThread_4 : c_Md_isThread[4]? = some (6, 1, .iconst 1, 0, 0, 0, 0, 0, []) := Eq.trans rfl rfl
theorem c_Md_isThread_5 : c_Md_isThread[5]? = some (7, 1, .isub, 0, 0, 0, 0, 0, []) := Eq.trans rfl rfl
theorem c_Md_isThread_6 : c_Md_isThread[6]? = some (8, 3, .invokestatic 107, 108, 3, 0, 0, 874, []) := Eq.trans rfl rfl
theorem c_Md_isThread_7 : c_Md_isThread[7]? = some (11, 1, .ireturn, 0, 0, 0, 3, 0, []) := Eq.trans rfl rfl
theorem mt_Md_top : am_MT[124]? = some m_Md_top := rfl
theorem c_Md_top_0 : c_Md_top[0]? = some (0, 1, .aload_n 0, 0, 0, 0, 0, 0, []) := Eq.trans rfl rfl
theorem c_Md_top_1 : c_Md_top[1]? = some (1, 3, .getfield 47, 8, 14, 0, 0, 771, []) := Eq.trans rfl rfl
theorem c_Md_top_2 : c_Md_top[2]? = some (4, 2, .bipush 45, 0, 0, 0, 0, 0, []) := Eq.trans rfl rfl
theorem c_Md_top_3 : c_Md_top[3]? = some (6, 1, .iload_n 1, 1, 0, 0, 0, 0, []) := Eq.trans rfl rfl
theorem c_Md_top_4 : c_Md_top[4]? = some (7, 1, .iadd, 0, 0, 0, 0, 0, []) := Eq.trans rfl rfl
theorem c_Md_top_5 : c_Md_top[5]? = some (8, 1, .iaload, 0, 0, 0, 0, 0, []) := Eq.trans rfl rfl
theorem c_Md_top_6 : c_Md_top[6]? = some (9, 3, .ifCond .ne 7, 9, 0, 0, 0, 0, []) := Eq.trans rfl rfl
theorem c_Md_top_7 : c_Md_top[7]? = some (12, 1, .iconst (-1), 0, 0, 0, 0, 0, []) := Eq.trans rfl rfl
theorem c_Md_top_8 : c_Md_top[8]? = some (13, 3, .goto 27, 26, 0, 0, 0, 0, []) := Eq.trans rfl rfl
theorem c_Md_top_9 : c_Md_top[9]? = some (16, 1, .aload_n 0, 0, 0, 0, 0, 0, []) := Eq.trans rfl rfl
theorem c_Md_top_10 : c_Md_top[10]? = some (17, 3, .getfield 47, 8, 14, 0, 0, 771, []) := Eq.trans rfl rfl
theorem c_Md_top_11 : c_Md_top[11]? = some (20, 2, .bipush 48, 0, 0, 0, 0, 0, []) := Eq.trans rfl rfl
theorem c_Md_top_12 : c_Md_top[12]? = some (22, 2, .bipush 6, 0, 0, 0, 0, 0, []) := Eq.trans rfl rfl
theorem c_Md_top_13 : c_Md_top[13]? = some (24, 1, .iload_n 1, 1, 0, 0, 0, 0, []) := Eq.trans rfl rfl
theorem c_Md_top_14 : c_Md_top[14]? = some (25, 1, .imul, 0, 0, 0, 0, 0, []) := Eq.trans rfl rfl
theorem c_Md_top_15 : c_Md_top[15]? = some (26, 1, .iadd, 0, 0, 0, 0, 0, []) := Eq.trans rfl rfl
theorem c_Md_top_16 : c_Md_top[16]? = some (27, 1, .aload_n 0, 0, 0, 0, 0, 0, []) := Eq.trans rfl rfl
theorem c_Md_top_17 : c_Md_top[17]? = some (28, 3, .getfield 47, 8, 14, 0, 0, 771, []) := Eq.trans rfl rfl
theorem c_Md_top_18 : c_Md_top[18]? = some (31, 2, .bipush 45, 0, 0, 0, 0, 0, []) := Eq.trans rfl rfl
theorem c_Md_top_19 : c_Md_top[19]? = some (33, 1, .iload_n 1, 1, 0, 0, 0, 0, []) := Eq.trans rfl rfl
theorem c_Md_top_20 : c_Md_top[20]? = some (34, 1, .iadd, 0, 0, 0, 0, 0, []) := Eq.trans rfl rfl
theorem c_Md_top_21 : c_Md_top[21]? = some (35, 1, .iaload, 0, 0, 0, 0, 0, []) := Eq.trans rfl rfl
theorem c_Md_top_22 : c_Md_top[22]? = some (36, 1, .iadd, 0, 0, 0, 0, 0, []) := Eq.trans rfl rfl
theorem c_Md_top_23 : c_Md_top[23]? = some (37, 1, .iconst 1, 0, 0, 0, 0, 0, []) := Eq.trans rfl rfl
theorem c_Md_top_24 : c_Md_top[24]? = some (38, 1, .isub, 0, 0, 0, 0, 0, []) := Eq.trans rfl rfl
theorem c_Md_top_25 : c_Md_top[25]? = some (39, 1, .iaload, 0, 0, 0, 0, 0, []) := Eq.trans rfl rfl
theorem c_Md_top_26 : c_Md_top[26]? = some (40, 1, .ireturn, 0, 0, 0, 0, 0, []) := Eq.trans rfl rfl
theorem mt_Md_isPassed : am_MT[126]? = some m_Md_isPassed := rfl
theorem c_Md_isPassed_0 : c_Md_isPassed[0]? = some (0, 1, .aload_n 0, 0, 0, 0, 0, 0, []) := Eq.trans rfl rfl
theorem c_Md_isPassed_1 : c_Md_isPassed[1]? = some (1, 3, .getfield 47, 8, 14, 0, 0, 771, []) := Eq.trans rfl rfl
theorem c_Md_isPassed_2 : c_Md_isPassed[2]? = some (4, 1, .iconst 0, 0, 0, 0, 0, 0, []) := Eq.trans rfl rfl
theorem c_Md_isPassed_3 : c_Md_isPassed[3]? = some (5, 1, .iload_n 2, 2, 0, 0, 0, 0, []) := Eq.trans rfl rfl
theorem c_Md_isPassed_4 : c_Md_isPassed[4]? = some (6, 1, .iadd, 0, 0, 0, 0, 0, []) := Eq.trans rfl rfl
theorem c_Md_isPassed_5 : c_Md_isPassed[5]? = some (7, 1, .iaload, 0, 0, 0, 0, 0, []) := Eq.trans rfl rfl
theorem c_Md_isPassed_6 : c_Md_isPassed[6]? = some (8, 1, .iconst 2, 0, 0, 0, 0, 0, []) := Eq.trans rfl rfl
theorem c_Md_isPassed_7 : c_Md_isPassed[7]? = some (9, 3, .if_icmp .eq 28, 24, 0, 0, 0, 0, []) := Eq.trans rfl rfl
theorem c_Md_isPassed_8 : c_Md_isPassed[8]? = some (12, 1, .aload_n 0, 0, 0, 0, 0, 0, []) := Eq.trans rfl rfl
theorem c_Md_isPassed_9 : c_Md_isPassed[9]? = some (13, 3, .getfield 47, 8, 14, 0, 0, 771, []) := Eq.trans rfl rfl
theorem c_Md_isPassed_10 : c_Md_isPassed[10]? = some (16, 1, .iconst 0, 0, 0, 0, 0, 0, []) := Eq.trans rfl rfl
theorem c_Md_isPassed_11 : c_Md_isPassed[11]? = some (17, 1, .iload_n 2, 2, 0, 0, 0, 0, []) := Eq.trans rfl rfl
theorem c_Md_isPassed_12 : c_Md_isPassed[12]? = some (18, 1, .iadd, 0, 0, 0, 0, 0, []) := Eq.trans rfl rfl
theorem c_Md_isPassed_13 : c_Md_isPassed[13]? = some (19, 1, .iaload, 0, 0, 0, 0, 0, []) := Eq.trans rfl rfl
theorem c_Md_isPassed_14 : c_Md_isPassed[14]? = some (20, 1, .iconst 1, 0, 0, 0, 0, 0, []) := Eq.trans rfl rfl
theorem c_Md_isPassed_15 : c_Md_isPassed[15]? = some (21, 3, .if_icmp .ne 20, 26, 0, 0, 0, 0, []) := Eq.trans rfl rfl
theorem c_Md_isPassed_16 : c_Md_isPassed[16]? = some (24, 1, .aload_n 0, 0, 0, 0, 0, 0, []) := Eq.trans rfl rfl
theorem c_Md_isPassed_17 : c_Md_isPassed[17]? = some (25, 3, .getfield 47, 8, 14, 0, 0, 771, []) := Eq.trans rfl rfl
theorem c_Md_isPassed_18 : c_Md_isPassed[18]? = some (28, 2, .bipush 6, 0, 0, 0, 0, 0, []) := Eq.trans rfl rfl
theorem c_Md_isPassed_19 : c_Md_isPassed[19]? = some (30, 1, .iload_n 2, 2, 0, 0, 0, 0, []) := Eq.trans rfl rfl
theorem c_Md_isPassed_20 : c_Md_isPassed[20]? = some (31, 1, .iadd, 0, 0, 0, 0, 0, []) := Eq.trans rfl rfl
theorem c_Md_isPassed_21 : c_Md_isPassed[21]? = some (32, 1, .iaload, 0, 0, 0, 0, 0, []) := Eq.trans rfl rfl
theorem c_Md_isPassed_22 : c_Md_isPassed[22]? = some (33, 1, .iload_n 1, 1, 0, 0, 0, 0, []) := Eq.trans rfl rfl
theorem c_Md_isPassed_23 : c_Md_isPassed[23]? = some (34, 3, .if_icmp .ne 7, 26, 0, 0, 0, 0, []) := Eq.trans rfl rfl
theorem c_Md_isPassed_24 : c_Md_isPassed[24]? = some (37, 1, .iconst 1, 0, 0, 0, 0, 0, []) := Eq.trans rfl rfl
theorem c_Md_isPassed_25 : c_Md_isPassed[25]? = some (38, 3, .goto 4, 27, 0, 0, 0, 0, []) := Eq.trans rfl rfl
theorem c_Md_isPassed_26 : c_Md_isPassed[26]? = some (41, 1, .iconst 0, 0, 0, 0, 0, 0, []) := Eq.trans rfl rfl
theorem c_Md_isPassed_27 : c_Md_isPassed[27]? = some (42, 1, .ireturn, 0, 0, 0, 3, 0, []) := Eq.trans rfl rfl

theorem ct_within (d : Nat) (hd : 1 ≤ d) (v a b : Int32) (h : am_H) : am_Ct am_df am_MT d 108 [.int v, .int a, .int b] h (fun r h' => r = some (.int (iI (if a ≤ v ∧ v ≤ b then 1 else 0))) ∧ h' = h) := by
  obtain ⟨d, rfl⟩ : ∃ e, d = e + 1 := ⟨d - 1, by omega⟩
  refine am_ct_of2 mt_Md_within (Nat.le_of_ble_eq_true rfl) ?_
  simp only [ar_nil, ar_int, ar_ref, ar_long, Nat.reduceAdd]
  refine am_go_of 20 [] _ c_Md_within_0 ?_
  simp (maxSteps := 2000000) (disch := omega) only [c_Md_within_0, c_Md_within_1, c_Md_within_2, c_Md_within_3, c_Md_within_4, c_Md_within_5, c_Md_within_6, c_Md_within_7, c_Md_within_8, c_Md_within_9, sx_goto, sx_iconst, sx_if_icmp_gt, sx_if_icmp_lt, sx_iload_n, sx_ireturn, sx_zreturn, am_W_s, am_W_0, am_mm_some, List.mem_cons, or_false, false_or, or_self, or_true, true_or, reduceIte, if_false, if_true, am_o_some, am_o_none, am_o_bad, am_o_good, am_ldi_hit, am_ldi_miss, am_lda_hit, am_lda_miss, am_ldl_hit, am_ldl_miss, am_inc_eq, am_inc_hit, am_inc_miss, am_ob_hit, am_fd_0, am_fd_s, am_ai_hit, am_ab_3, am_al_hit, am_aq_4, am_al0_hit, am_put_1, am_put_2, am_put_put, am_up_hit, am_up_miss, am_s1_eq, am_s2_eq, am_fl_nil, am_fl_hit, am_fl_int, am_fl_ref, am_fl_long, am_fl_longx, am_fl2_nil, am_fl2_hit, am_fl2_hit1, am_fl2_int, am_fl2_ref, am_fl2_long, List.not_mem_nil, not_false_eq_true, ne_eq, Nat.reduceAdd, Nat.reduceEqDiff, Nat.zero_add, Nat.add_left_cancel_iff, List.set_cons_zero, List.set_cons_succ, List.length_cons, List.length_nil, Nat.reduceLT, am_ft_i, am_ft_r, am_ft_z, and_true, true_and, Option.toList_some, Option.toList_none, List.cons_append, List.nil_append, List.drop_succ_cons, List.drop_zero, iI_c, iI_b, iI_s, iI_n, iI_add, iI_sub, iI_mul, iI_neg, iI_nle, iI_ix, iI_eq0, iI_eq1, iI_lt0, iI_0lt, iI_le0, iI_0le, iI_eq, iI_lt, iI_le, iI_upd, iI_updZ, md_fs_len, md_f0, md_f1, md_f2, md_f3, md_f4, md_f5, md_f6, md_f7, md_f8, md_f9, md_f10, md_f11, md_f12, md_f13, md_f14, md_f15, md_f16, md_f17, md_f18, md_f19, md_f20, md_f21, md_f22, md_f23, md_f24, md_f25, md_f26, md_f27, md_f28, md_f29, md_f30, md_f31, md_f32, md_f33, md_f34, md_f35, md_s0, md_s1, md_s15, md_s16, md_s17, md_s23, md_s24, md_s31, md_t1, md_t2, md_t3, md_t4, md_t5, md_t6, md_t7, md_t8, md_t9, md_t10, md_t11, md_t12, md_t13, md_t14, md_t15, md_t16, md_t17, md_t18, md_t19, md_t20, md_t21, md_t22, md_t23, md_t24, md_t25, md_t26, md_t27, md_t28, md_l1, md_l2, md_l3, md_l4, md_l5, md_l6, md_l7, md_l8, md_l9, md_l10, md_l11, md_l12, md_l13, md_l14, md_l15, md_l16, md_l17, md_l18, md_l19, md_l20, md_l21, md_l22, md_l23, md_l24, md_l25, md_l26, md_l27, md_l28]
  by_cases h1 : a ≤ v
  · have h2 : ¬ v < a := Int32.not_lt.mpr h1
    rw [if_neg h2]
    by_cases h3 : v ≤ b
    · rw [if_neg (Int32.not_lt.mpr h3), if_pos ⟨h1, h3⟩]
    · rw [if_pos (Int32.not_le.mp h3), if_neg (fun q => h3 q.2)]
  · rw [if_pos (Int32.not_le.mp h1), if_neg (fun q => h1 q.1)]
theorem sp_01 {p : Prop} [Decidable p] : (if p then (1 : Int) else 0) = 0 ∨ (if p then (1 : Int) else 0) = 1 := by
  split
  · exact Or.inr rfl
  · exact Or.inl rfl
theorem ct_isType (d : Nat) (hd : 2 ≤ d) (h : am_H) (o : Nat) (I : Nat → Int) (F : Nat → Int → Int) (H : md_at h o I F) (v : Int32) : am_Ct am_df am_MT d 107 [.ref o, .int v] h (fun r h' => r = some (.int (iI (if iI 0 ≤ v ∧ v ≤ iI (I 0 - 1) then 1 else 0))) ∧ h' = h) := by
  obtain ⟨h0, hO, hA⟩ := H
  obtain ⟨d, rfl⟩ : ∃ e, d = e + 1 := ⟨d - 1, by omega⟩
  refine am_ct_of2 mt_Md_isType (Nat.le_of_ble_eq_true rfl) ?_
  simp only [ar_nil, ar_int, ar_ref, ar_long, Nat.reduceAdd]
  refine am_go_of 20 [6] _ c_Md_isType_0 ?_
  simp (maxSteps := 2000000) (disch := omega) only [c_Md_isType_0, c_Md_isType_1, c_Md_isType_2, c_Md_isType_3, c_Md_isType_4, c_Md_isType_5, c_Md_isType_6, c_Md_isType_7, sx_aload_n, sx_getfield, sx_iconst, sx_iload_n, sx_ireturn, sx_isub, sx_zreturn, am_W_s, am_W_0, am_mm_some, List.mem_cons, or_false, false_or, or_self, or_true, true_or, reduceIte, if_false, if_true, am_o_some, am_o_none, am_o_bad, am_o_good, am_ldi_hit, am_ldi_miss, am_lda_hit, am_lda_miss, am_ldl_hit, am_ldl_miss, am_inc_eq, am_inc_hit, am_inc_miss, am_ob_hit, am_fd_0, am_fd_s, am_ai_hit, am_ab_3, am_al_hit, am_aq_4, am_al0_hit, am_put_1, am_put_2, am_put_put, am_up_hit, am_up_miss, am_s1_eq, am_s2_eq, am_fl_nil, am_fl_hit, am_fl_int, am_fl_ref, am_fl_long, am_fl_longx, am_fl2_nil, am_fl2_hit, am_fl2_hit1, am_fl2_int, am_fl2_ref, am_fl2_long, List.not_mem_nil, not_false_eq_true, ne_eq, Nat.reduceAdd, Nat.reduceEqDiff, Nat.zero_add, Nat.add_left_cancel_iff, List.set_cons_zero, List.set_cons_succ, List.length_cons, List.length_nil, Nat.reduceLT, am_ft_i, am_ft_r, am_ft_z, and_true, true_and, Option.toList_some, Option.toList_none, List.cons_append, List.nil_append, List.drop_succ_cons, List.drop_zero, iI_c, iI_b, iI_s, iI_n, iI_add, iI_sub, iI_mul, iI_neg, iI_nle, iI_ix, iI_eq0, iI_eq1, iI_lt0, iI_0lt, iI_le0, iI_0le, iI_eq, iI_lt, iI_le, iI_upd, iI_updZ, hO, md_fs_len, md_f0, md_f1, md_f2, md_f3, md_f4, md_f5, md_f6, md_f7, md_f8, md_f9, md_f10, md_f11, md_f12, md_f13, md_f14, md_f15, md_f16, md_f17, md_f18, md_f19, md_f20, md_f21, md_f22, md_f23, md_f24, md_f25, md_f26, md_f27, md_f28, md_f29, md_f30, md_f31, md_f32, md_f33, md_f34, md_f35, md_s0, md_s1, md_s15, md_s16, md_s17, md_s23, md_s24, md_s31, md_t1, md_t2, md_t3, md_t4, md_t5, md_t6, md_t7, md_t8, md_t9, md_t10, md_t11, md_t12, md_t13, md_t14, md_t15, md_t16, md_t17, md_t18, md_t19, md_t20, md_t21, md_t22, md_t23, md_t24, md_t25, md_t26, md_t27, md_t28, md_l1, md_l2, md_l3, md_l4, md_l5, md_l6, md_l7, md_l8, md_l9, md_l10, md_l11, md_l12, md_l13, md_l14, md_l15, md_l16, md_l17, md_l18, md_l19, md_l20, md_l21, md_l22, md_l23, md_l24, md_l25, md_l26, md_l27, md_l28]
  refine am_go_call c_Md_isType_6 (by decide) (by decide) (by simp [am_can, am_kd, Value.category]) ?_
  refine (ct_within d (by omega) _ _ _ _).mono (fun r h' hr => ?_)
  obtain ⟨rfl, rfl⟩ := hr
  refine am_go_of 5 [6] _ c_Md_isType_7 ?_
  simp (maxSteps := 2000000) (disch := omega) only [c_Md_isType_0, c_Md_isType_1, c_Md_isType_2, c_Md_isType_3, c_Md_isType_4, c_Md_isType_5, c_Md_isType_6, c_Md_isType_7, sx_aload_n, sx_getfield, sx_iconst, sx_iload_n, sx_ireturn, sx_isub, sx_zreturn, am_W_s, am_W_0, am_mm_some, List.mem_cons, or_false, false_or, or_self, or_true, true_or, reduceIte, if_false, if_true, am_o_some, am_o_none, am_o_bad, am_o_good, am_ldi_hit, am_ldi_miss, am_lda_hit, am_lda_miss, am_ldl_hit, am_ldl_miss, am_inc_eq, am_inc_hit, am_inc_miss, am_ob_hit, am_fd_0, am_fd_s, am_ai_hit, am_ab_3, am_al_hit, am_aq_4, am_al0_hit, am_put_1, am_put_2, am_put_put, am_up_hit, am_up_miss, am_s1_eq, am_s2_eq, am_fl_nil, am_fl_hit, am_fl_int, am_fl_ref, am_fl_long, am_fl_longx, am_fl2_nil, am_fl2_hit, am_fl2_hit1, am_fl2_int, am_fl2_ref, am_fl2_long, List.not_mem_nil, not_false_eq_true, ne_eq, Nat.reduceAdd, Nat.reduceEqDiff, Nat.zero_add, Nat.add_left_cancel_iff, List.set_cons_zero, List.set_cons_succ, List.length_cons, List.length_nil, Nat.reduceLT, am_ft_i, am_ft_r, am_ft_z, and_true, true_and, Option.toList_some, Option.toList_none, List.cons_append, List.nil_append, List.drop_succ_cons, List.drop_zero, iI_c, iI_b, iI_s, iI_n, iI_add, iI_sub, iI_mul, iI_neg, iI_nle, iI_ix, iI_eq0, iI_eq1, iI_lt0, iI_0lt, iI_le0, iI_0le, iI_eq, iI_lt, iI_le, iI_upd, iI_updZ, md_fs_len, md_f0, md_f1, md_f2, md_f3, md_f4, md_f5, md_f6, md_f7, md_f8, md_f9, md_f10, md_f11, md_f12, md_f13, md_f14, md_f15, md_f16, md_f17, md_f18, md_f19, md_f20, md_f21, md_f22, md_f23, md_f24, md_f25, md_f26, md_f27, md_f28, md_f29, md_f30, md_f31, md_f32, md_f33, md_f34, md_f35, md_s0, md_s1, md_s15, md_s16, md_s17, md_s23, md_s24, md_s31, md_t1, md_t2, md_t3, md_t4, md_t5, md_t6, md_t7, md_t8, md_t9, md_t10, md_t11, md_t12, md_t13, md_t14, md_t15, md_t16, md_t17, md_t18, md_t19, md_t20, md_t21, md_t22, md_t23, md_t24, md_t25, md_t26, md_t27, md_t28, md_l1, md_l2, md_l3, md_l4, md_l5, md_l6, md_l7, md_l8, md_l9, md_l10, md_l11, md_l12, md_l13, md_l14, md_l15, md_l16, md_l17, md_l18, md_l19, md_l20, md_l21, md_l22, md_l23, md_l24, md_l25, md_l26, md_l27, md_l28]
  exact sp_01
theorem ct_isThread (d : Nat) (hd : 2 ≤ d) (h : am_H) (o : Nat) (I : Nat → Int) (F : Nat → Int → Int) (H : md_at h o I F) (v : Int32) : am_Ct am_df am_MT d 118 [.ref o, .int v] h (fun r h' => r = some (.int (iI (if iI 0 ≤ v ∧ v ≤ iI (I 1 - 1) then 1 else 0))) ∧ h' = h) := by
  obtain ⟨h0, hO, hA⟩ := H
  obtain ⟨d, rfl⟩ : ∃ e, d = e + 1 := ⟨d - 1, by omega⟩
  refine am_ct_of2 mt_Md_isThread (Nat.le_of_ble_eq_true rfl) ?_
  simp only [ar_nil, ar_int, ar_ref, ar_long, Nat.reduceAdd]
  refine am_go_of 20 [6] _ c_Md_isThread_0 ?_
  simp (maxSteps := 2000000) (disch := omega) only [c_Md_isThread_0, c_Md_isThread_1, c_Md_isThread_2, c_Md_isThread_3, c_Md_isThread_4, c_Md_isThread_5, c_Md_isThread_6, c_Md_isThread_7, sx_aload_n, sx_getfield, sx_iconst, sx_iload_n, sx_ireturn, sx_isub, sx_zreturn, am_W_s, am_W_0, am_mm_some, List.mem_cons, or_false, false_or, or_self, or_true, true_or, reduceIte, if_false, if_true, am_o_some, am_o_none, am_o_bad, am_o_good, am_ldi_hit, am_ldi_miss, am_lda_hit, am_lda_miss, am_ldl_hit, am_ldl_miss, am_inc_eq, am_inc_hit, am_inc_miss, am_ob_hit, am_fd_0, am_fd_s, am_ai_hit, am_ab_3, am_al_hit, am_aq_4, am_al0_hit, am_put_1, am_put_2, am_put_put, am_up_hit, am_up_miss, am_s1_eq, am_s2_eq, am_fl_nil, am_fl_hit, am_fl_int, am_fl_ref, am_fl_long, am_fl_longx, am_fl2_nil, am_fl2_hit, am_fl2_hit1, am_fl2_int, am_fl2_ref, am_fl2_long, List.not_mem_nil, not_false_eq_true, ne_eq, Nat.reduceAdd, Nat.reduceEqDiff, Nat.zero_add, Nat.add_left_cancel_iff, List.set_cons_zero, List.set_cons_succ, List.length_cons, List.length_nil, Nat.reduceLT, am_ft_i, am_ft_r, am_ft_z, and_true, true_and, Option.toList_some, Option.toList_none, List.cons_append, List.nil_append, List.drop_succ_cons, List.drop_zero, iI_c, iI_b, iI_s, iI_n, iI_add, iI_sub, iI_mul, iI_neg, iI_nle, iI_ix, iI_eq0, iI_eq1, iI_lt0, iI_0lt, iI_le0, iI_0le, iI_eq, iI_lt, iI_le, iI_upd, iI_updZ, hO, md_fs_len, md_f0, md_f1, md_f2, md_f3, md_f4, md_f5, md_f6, md_f7, md_f8, md_f9, md_f10, md_f11, md_f12, md_f13, md_f14, md_f15, md_f16, md_f17, md_f18, md_f19, md_f20, md_f21, md_f22, md_f23, md_f24, md_f25, md_f26, md_f27, md_f28, md_f29, md_f30, md_f31, md_f32, md_f33, md_f34, md_f35, md_s0, md_s1, md_s15, md_s16, md_s17, md_s23, md_s24, md_s31, md_t1, md_t2, md_t3, md_t4, md_t5, md_t6, md_t7, md_t8, md_t9, md_t10, md_t11, md_t12, md_t13, md_t14, md_t15, md_t16, md_t17, md_t18, md_t19, md_t20, md_t21, md_t22, md_t23, md_t24, md_t25, md_t26, md_t27, md_t28, md_l1, md_l2, md_l3, md_l4, md_l5, md_l6, md_l7, md_l8, md_l9, md_l10, md_l11, md_l12, md_l13, md_l14, md_l15, md_l16, md_l17, md_l18, md_l19, md_l20, md_l21, md_l22, md_l23, md_l24, md_l25, md_l26, md_l27, md_l28]
  refine am_go_call c_Md_isThread_6 (by decide) (by decide) (by simp [am_can, am_kd, Value.category]) ?_
  refine (ct_within d (by omega) _ _ _ _).mono (fun r h' hr => ?_)
  obtain ⟨rfl, rfl⟩ := hr
  refine am_go_of 5 [6] _ c_Md_isThread_7 ?_
  simp (maxSteps := 2000000) (disch := omega) only [c_Md_isThread_0, c_Md_isThread_1, c_Md_isThread_2, c_Md_isThread_3, c_Md_isThread_4, c_Md_isThread_5, c_Md_isThread_6, c_Md_isThread_7, sx_aload_n, sx_getfield, sx_iconst, sx_iload_n, sx_ireturn, sx_isub, sx_zreturn, am_W_s, am_W_0, am_mm_some, List.mem_cons, or_false, false_or, or_self, or_true, true_or, reduceIte, if_false, if_true, am_o_some, am_o_none, am_o_bad, am_o_good, am_ldi_hit, am_ldi_miss, am_lda_hit, am_lda_miss, am_ldl_hit, am_ldl_miss, am_inc_eq, am_inc_hit, am_inc_miss, am_ob_hit, am_fd_0, am_fd_s, am_ai_hit, am_ab_3, am_al_hit, am_aq_4, am_al0_hit, am_put_1, am_put_2, am_put_put, am_up_hit, am_up_miss, am_s1_eq, am_s2_eq, am_fl_nil, am_fl_hit, am_fl_int, am_fl_ref, am_fl_long, am_fl_longx, am_fl2_nil, am_fl2_hit, am_fl2_hit1, am_fl2_int, am_fl2_ref, am_fl2_long, List.not_mem_nil, not_false_eq_true, ne_eq, Nat.reduceAdd, Nat.reduceEqDiff, Nat.zero_add, Nat.add_left_cancel_iff, List.set_cons_zero, List.set_cons_succ, List.length_cons, List.length_nil, Nat.reduceLT, am_ft_i, am_ft_r, am_ft_z, and_true, true_and, Option.toList_some, Option.toList_none, List.cons_append, List.nil_append, List.drop_succ_cons, List.drop_zero, iI_c, iI_b, iI_s, iI_n, iI_add, iI_sub, iI_mul, iI_neg, iI_nle, iI_ix, iI_eq0, iI_eq1, iI_lt0, iI_0lt, iI_le0, iI_0le, iI_eq, iI_lt, iI_le, iI_upd, iI_updZ, md_fs_len, md_f0, md_f1, md_f2, md_f3, md_f4, md_f5, md_f6, md_f7, md_f8, md_f9, md_f10, md_f11, md_f12, md_f13, md_f14, md_f15, md_f16, md_f17, md_f18, md_f19, md_f20, md_f21, md_f22, md_f23, md_f24, md_f25, md_f26, md_f27, md_f28, md_f29, md_f30, md_f31, md_f32, md_f33, md_f34, md_f35, md_s0, md_s1, md_s15, md_s16, md_s17, md_s23, md_s24, md_s31, md_t1, md_t2, md_t3, md_t4, md_t5, md_t6, md_t7, md_t8, md_t9, md_t10, md_t11, md_t12, md_t13, md_t14, md_t15, md_t16, md_t17, md_t18, md_t19, md_t20, md_t21, md_t22, md_t23, md_t24, md_t25, md_t26, md_t27, md_t28, md_l1, md_l2, md_l3, md_l4, md_l5, md_l6, md_l7, md_l8, md_l9, md_l10, md_l11, md_l12, md_l13, md_l14, md_l15, md_l16, md_l17, md_l18, md_l19, md_l20, md_l21, md_l22, md_l23, md_l24, md_l25, md_l26, md_l27, md_l28]
  exact sp_01
def sp_top (s : Int → Int) (t : Int) : Int := if s (45 + t) = 0 then -1 else s (48 + 6 * t + s (45 + t) - 1)
theorem ct_top (d : Nat) (hd : 1 ≤ d) (h : am_H) (o : Nat) (I : Nat → Int) (F : Nat → Int → Int) (H : md_at h o I F) (t : Int) (ht : 0 ≤ t ∧ t < 3) (hm : 0 ≤ F 13 (45 + t) ∧ F 13 (45 + t) ≤ 6) : am_Ct am_df am_MT d 124 [.ref o, .int (iI t)] h (fun r h' => r = some (.int (iI (sp_top (F 13) t))) ∧ h' = h) := by
  obtain ⟨h0, hO, hA⟩ := H
  obtain ⟨d, rfl⟩ : ∃ e, d = e + 1 := ⟨d - 1, by omega⟩
  refine am_ct_of2 mt_Md_top (Nat.le_of_ble_eq_true rfl) ?_
  simp only [ar_nil, ar_int, ar_ref, ar_long, Nat.reduceAdd]
  refine am_go_of 40 [] _ c_Md_top_0 ?_
  simp (maxSteps := 2000000) (disch := omega) only [c_Md_top_0, c_Md_top_1, c_Md_top_2, c_Md_top_3, c_Md_top_4, c_Md_top_5, c_Md_top_6, c_Md_top_7, c_Md_top_8, c_Md_top_9, c_Md_top_10, c_Md_top_11, c_Md_top_12, c_Md_top_13, c_Md_top_14, c_Md_top_15, c_Md_top_16, c_Md_top_17, c_Md_top_18, c_Md_top_19, c_Md_top_20, c_Md_top_21, c_Md_top_22, c_Md_top_23, c_Md_top_24, c_Md_top_25, c_Md_top_26, sx_aload_n, sx_bipush, sx_getfield, sx_goto, sx_iadd, sx_iaload, sx_iconst, sx_ifCond_ne, sx_iload_n, sx_imul, sx_ireturn, sx_isub, sx_zreturn, am_W_s, am_W_0, am_mm_some, List.mem_cons, or_false, false_or, or_self, or_true, true_or, reduceIte, if_false, if_true, am_o_some, am_o_none, am_o_bad, am_o_good, am_ldi_hit, am_ldi_miss, am_lda_hit, am_lda_miss, am_ldl_hit, am_ldl_miss, am_inc_eq, am_inc_hit, am_inc_miss, am_ob_hit, am_fd_0, am_fd_s, am_ai_hit, am_ab_3, am_al_hit, am_aq_4, am_al0_hit, am_put_1, am_put_2, am_put_put, am_up_hit, am_up_miss, am_s1_eq, am_s2_eq, am_fl_nil, am_fl_hit, am_fl_int, am_fl_ref, am_fl_long, am_fl_longx, am_fl2_nil, am_fl2_hit, am_fl2_hit1, am_fl2_int, am_fl2_ref, am_fl2_long, List.not_mem_nil, not_false_eq_true, ne_eq, Nat.reduceAdd, Nat.reduceEqDiff, Nat.zero_add, Nat.add_left_cancel_iff, List.set_cons_zero, List.set_cons_succ, List.length_cons, List.length_nil, Nat.reduceLT, am_ft_i, am_ft_r, am_ft_z, and_true, true_and, Option.toList_some, Option.toList_none, List.cons_append, List.nil_append, List.drop_succ_cons, List.drop_zero, iI_c, iI_b, iI_s, iI_n, iI_add, iI_sub, iI_mul, iI_neg, iI_nle, iI_ix, iI_eq0, iI_eq1, iI_lt0, iI_0lt, iI_le0, iI_0le, iI_eq, iI_lt, iI_le, iI_upd, iI_updZ, hO, hA, md_fs_len, md_f0, md_f1, md_f2, md_f3, md_f4, md_f5, md_f6, md_f7, md_f8, md_f9, md_f10, md_f11, md_f12, md_f13, md_f14, md_f15, md_f16, md_f17, md_f18, md_f19, md_f20, md_f21, md_f22, md_f23, md_f24, md_f25, md_f26, md_f27, md_f28, md_f29, md_f30, md_f31, md_f32, md_f33, md_f34, md_f35, md_s0, md_s1, md_s15, md_s16, md_s17, md_s23, md_s24, md_s31, md_t1, md_t2, md_t3, md_t4, md_t5, md_t6, md_t7, md_t8, md_t9, md_t10, md_t11, md_t12, md_t13, md_t14, md_t15, md_t16, md_t17, md_t18, md_t19, md_t20, md_t21, md_t22, md_t23, md_t24, md_t25, md_t26, md_t27, md_t28, md_l1, md_l2, md_l3, md_l4, md_l5, md_l6, md_l7, md_l8, md_l9, md_l10, md_l11, md_l12, md_l13, md_l14, md_l15, md_l16, md_l17, md_l18, md_l19, md_l20, md_l21, md_l22, md_l23, md_l24, md_l25, md_l26, md_l27, md_l28]
  unfold sp_top
  refine ⟨by omega, ?_⟩
  split
  · rfl
  · exact ⟨by omega, by omega, rfl⟩
def md_rg (I : Nat → Int) (F : Nat → Int → Int) : Prop :=
  (0 ≤ I 0 ∧ I 0 ≤ 6 ∧ 0 ≤ I 1 ∧ I 1 ≤ 3) ∧
  (∀ k : Int, 0 ≤ k ∧ k < 6 → 0 ≤ F 1 k ∧ F 1 k ≤ 2 ∧ -1 ≤ F 2 k ∧ F 2 k ≤ 5 ∧ 0 ≤ F 3 k ∧ F 3 k ≤ 3 ∧ 0 ≤ F 6 k ∧ F 6 k ≤ 6 ∧ -1 ≤ F 17 k ∧ F 17 k ≤ 5) ∧
  (∀ k : Int, 0 ≤ k ∧ k < 18 → 0 ≤ F 4 k ∧ F 4 k ≤ 5) ∧
  (∀ k : Int, 0 ≤ k ∧ k < 36 → 0 ≤ F 7 k ∧ F 7 k ≤ 5) ∧
  (∀ k : Int, 0 ≤ k ∧ k < 9 → 0 ≤ F 8 k ∧ F 8 k ≤ 5) ∧
  (∀ k : Int, 0 ≤ k ∧ k < 45 → 0 ≤ F 9 k ∧ F 9 k ≤ 5 ∧ 0 ≤ F 10 k ∧ F 10 k ≤ 5 ∧ -9 ≤ F 11 k ∧ F 11 k ≤ 9 ∧ (F 12 k = 0 ∨ F 12 k = 1))
def rs_rg (s : Int → Int) : Prop :=
  (∀ k : Int, 0 ≤ k ∧ k < 6 → 0 ≤ s k ∧ s k ≤ 3 ∧ -1 ≤ s (6 + k) ∧ s (6 + k) ≤ 2 ∧ -9 ≤ s (12 + k) ∧ s (12 + k) ≤ 9 ∧ -1 ≤ s (18 + k) ∧ s (18 + k) ≤ 6 ∧ 0 ≤ s (24 + k) ∧ s (24 + k) ≤ 5 ∧ -9 ≤ s (30 + k) ∧ s (30 + k) ≤ 9) ∧
  (∀ k : Int, 0 ≤ k ∧ k < 3 → 0 ≤ s (36 + k) ∧ s (36 + k) ≤ 7 ∧ 0 ≤ s (39 + k) ∧ s (39 + k) ≤ 5 ∧ -9 ≤ s (42 + k) ∧ s (42 + k) ≤ 9 ∧ 0 ≤ s (45 + k) ∧ s (45 + k) ≤ 6) ∧
  (∀ k : Int, 0 ≤ k ∧ k < 18 → 0 ≤ s (48 + k) ∧ s (48 + k) ≤ 5)
theorem mt_Md_nextIn : am_MT[125]? = some m_Md_nextIn := rfl
theorem c_Md_nextIn_0 : c_Md_nextIn[0]? = some (0, 1, .aload_n 0, 0, 0, 0, 0, 0, []) := Eq.trans rfl rfl
theorem c_Md_nextIn_1 : c_Md_nextIn[1]? = some (1, 3, .getfield 47, 8, 14, 0, 0, 771, []) := Eq.trans rfl rfl
theorem c_Md_nextIn_2 : c_Md_nextIn[2]? = some (4, 2, .bipush 18, 0, 0, 0, 0, 0, []) := Eq.trans rfl rfl
theorem c_Md_nextIn_3 : c_Md_nextIn[3]? = some (6, 1, .iload_n 2, 2, 0, 0, 0, 0, []) := Eq.trans rfl rfl
theorem c_Md_nextIn_4 : c_Md_nextIn[4]? = some (7, 1, .iadd, 0, 0, 0, 0, 0, []) := Eq.trans rfl rfl
theorem c_Md_nextIn_5 : c_Md_nextIn[5]? = some (8, 1, .iaload, 0, 0, 0, 0, 0, []) := Eq.trans rfl rfl
theorem c_Md_nextIn_6 : c_Md_nextIn[6]? = some (9, 1, .istore_n 3, 3, 0, 0, 0, 0, []) := Eq.trans rfl rfl
theorem c_Md_nextIn_7 : c_Md_nextIn[7]? = some (10, 1, .iload_n 3, 3, 0, 0, 0, 0, []) := Eq.trans rfl rfl
theorem c_Md_nextIn_8 : c_Md_nextIn[8]? = some (11, 1, .aload_n 0, 0, 0, 0, 0, 0, []) := Eq.trans rfl rfl
theorem c_Md_nextIn_9 : c_Md_nextIn[9]? = some (12, 3, .getfield 26, 8, 7, 0, 0, 764, []) := Eq.trans rfl rfl
theorem c_Md_nextIn_10 : c_Md_nextIn[10]? = some (15, 1, .iload_n 2, 2, 0, 0, 0, 0, []) := Eq.trans rfl rfl
theorem c_Md_nextIn_11 : c_Md_nextIn[11]? = some (16, 1, .iaload, 0, 0, 0, 0, 0, []) := Eq.trans rfl rfl
theorem c_Md_nextIn_12 : c_Md_nextIn[12]? = some (17, 3, .if_icmp .ge 28, 27, 0, 0, 0, 0, []) := Eq.trans rfl rfl
theorem c_Md_nextIn_13 : c_Md_nextIn[13]? = some (20, 1, .aload_n 0, 0, 0, 0, 0, 0, []) := Eq.trans rfl rfl
theorem c_Md_nextIn_14 : c_Md_nextIn[14]? = some (21, 1, .iload_n 1, 1, 0, 0, 0, 0, []) := Eq.trans rfl rfl
theorem c_Md_nextIn_15 : c_Md_nextIn[15]? = some (22, 1, .aload_n 0, 0, 0, 0, 0, 0, []) := Eq.trans rfl rfl
theorem c_Md_nextIn_16 : c_Md_nextIn[16]? = some (23, 3, .getfield 29, 8, 8, 0, 0, 765, []) := Eq.trans rfl rfl
theorem c_Md_nextIn_17 : c_Md_nextIn[17]? = some (26, 2, .bipush 6, 0, 0, 0, 0, 0, []) := Eq.trans rfl rfl
theorem c_Md_nextIn_18 : c_Md_nextIn[18]? = some (28, 1, .iload_n 2, 2, 0, 0, 0, 0, []) := Eq.trans rfl rfl
theorem c_Md_nextIn_19 : c_Md_nextIn[19]? = some (29, 1, .imul, 0, 0, 0, 0, 0, []) := Eq.trans rfl rfl
theorem c_Md_nextIn_20 : c_Md_nextIn[20]? = some (30, 1, .iload_n 3, 3, 0, 0, 0, 0, []) := Eq.trans rfl rfl
theorem c_Md_nextIn_21 : c_Md_nextIn[21]? = some (31, 1, .iadd, 0, 0, 0, 0, 0, []) := Eq.trans rfl rfl
theorem c_Md_nextIn_22 : c_Md_nextIn[22]? = some (32, 1, .iaload, 0, 0, 0, 0, 0, []) := Eq.trans rfl rfl
theorem c_Md_nextIn_23 : c_Md_nextIn[23]? = some (33, 3, .invokevirtual 147, 126, 3, 8, 0, 944, []) := Eq.trans rfl rfl
theorem c_Md_nextIn_24 : c_Md_nextIn[24]? = some (36, 3, .ifCond .eq 9, 27, 0, 0, 0, 0, []) := Eq.trans rfl rfl
theorem c_Md_nextIn_25 : c_Md_nextIn[25]? = some (39, 3, .iinc 3 1, 0, 0, 0, 0, 0, []) := Eq.trans rfl rfl
theorem c_Md_nextIn_26 : c_Md_nextIn[26]? = some (42, 3, .goto (-32), 7, 0, 0, 0, 0, []) := Eq.trans rfl rfl
theorem c_Md_nextIn_27 : c_Md_nextIn[27]? = some (45, 1, .iload_n 3, 3, 0, 0, 0, 0, []) := Eq.trans rfl rfl
theorem c_Md_nextIn_28 : c_Md_nextIn[28]? = some (46, 1, .ireturn, 0, 0, 0, 0, 0, []) := Eq.trans rfl rfl
def sp_passed (s : Int → Int) (h t : Int) : Int := if s t = 2 ∨ s t = 1 ∧ s (6 + t) = h then 1 else 0
theorem sp_passed_01 {s : Int → Int} {h t : Int} : 0 ≤ sp_passed s h t ∧ sp_passed s h t ≤ 1 := by
  unfold sp_passed
  split <;> decide
theorem ct_isPassed (d : Nat) (hd : 1 ≤ d) (h : am_H) (o : Nat) (I : Nat → Int) (F : Nat → Int → Int) (H : md_at h o I F) (hs : rs_rg (F 13)) (th t : Int) (hh : 0 ≤ th ∧ th < 3) (ht : 0 ≤ t ∧ t < 6) : am_Ct am_df am_MT d 126 [.ref o, .int (iI th), .int (iI t)] h (fun r h' => r = some (.int (iI (sp_passed (F 13) th t))) ∧ h' = h) := by
  obtain ⟨h0, hO, hA⟩ := H
  have e1 := hs.1 t ht
  obtain ⟨d, rfl⟩ : ∃ e, d = e + 1 := ⟨d - 1, by omega⟩
  refine am_ct_of2 mt_Md_isPassed (Nat.le_of_ble_eq_true rfl) ?_
  simp only [ar_nil, ar_int, ar_ref, ar_long, Nat.reduceAdd]
  refine am_go_of 40 [] _ c_Md_isPassed_0 ?_
  simp (maxSteps := 2000000) (disch := omega) only [c_Md_isPassed_0, c_Md_isPassed_1, c_Md_isPassed_2, c_Md_isPassed_3, c_Md_isPassed_4, c_Md_isPassed_5, c_Md_isPassed_6, c_Md_isPassed_7, c_Md_isPassed_8, c_Md_isPassed_9, c_Md_isPassed_10, c_Md_isPassed_11, c_Md_isPassed_12, c_Md_isPassed_13, c_Md_isPassed_14, c_Md_isPassed_15, c_Md_isPassed_16, c_Md_isPassed_17, c_Md_isPassed_18, c_Md_isPassed_19, c_Md_isPassed_20, c_Md_isPassed_21, c_Md_isPassed_22, c_Md_isPassed_23, c_Md_isPassed_24, c_Md_isPassed_25, c_Md_isPassed_26, c_Md_isPassed_27, sx_aload_n, sx_bipush, sx_getfield, sx_goto, sx_iadd, sx_iaload, sx_iconst, sx_if_icmp_eq, sx_if_icmp_ne, sx_iload_n, sx_ireturn, sx_zreturn, am_W_s, am_W_0, am_mm_some, List.mem_cons, or_false, false_or, or_self, or_true, true_or, reduceIte, if_false, if_true, am_o_some, am_o_none, am_o_bad, am_o_good, am_ldi_hit, am_ldi_miss, am_lda_hit, am_lda_miss, am_ldl_hit, am_ldl_miss, am_inc_eq, am_inc_hit, am_inc_miss, am_ob_hit, am_fd_0, am_fd_s, am_ai_hit, am_ab_3, am_al_hit, am_aq_4, am_al0_hit, am_put_1, am_put_2, am_put_put, am_up_hit, am_up_miss, am_s1_eq, am_s2_eq, am_fl_nil, am_fl_hit, am_fl_int, am_fl_ref, am_fl_long, am_fl_longx, am_fl2_nil, am_fl2_hit, am_fl2_hit1, am_fl2_int, am_fl2_ref, am_fl2_long, List.not_mem_nil, not_false_eq_true, ne_eq, Nat.reduceAdd, Nat.reduceEqDiff, Nat.zero_add, Nat.add_left_cancel_iff, List.set_cons_zero, List.set_cons_succ, List.length_cons, List.length_nil, Nat.reduceLT, am_ft_i, am_ft_r, am_ft_z, and_true, true_and, Option.toList_some, Option.toList_none, List.cons_append, List.nil_append, List.drop_succ_cons, List.drop_zero, iI_c, iI_b, iI_s, iI_n, iI_add, iI_sub, iI_mul, iI_neg, iI_nle, iI_ix, iI_eq0, iI_eq1, iI_lt0, iI_0lt, iI_le0, iI_0le, iI_eq, iI_lt, iI_le, iI_upd, iI_updZ, hO, hA, Int.zero_add, md_fs_len, md_f0, md_f1, md_f2, md_f3, md_f4, md_f5, md_f6, md_f7, md_f8, md_f9, md_f10, md_f11, md_f12, md_f13, md_f14, md_f15, md_f16, md_f17, md_f18, md_f19, md_f20, md_f21, md_f22, md_f23, md_f24, md_f25, md_f26, md_f27, md_f28, md_f29, md_f30, md_f31, md_f32, md_f33, md_f34, md_f35, md_s0, md_s1, md_s15, md_s16, md_s17, md_s23, md_s24, md_s31, md_t1, md_t2, md_t3, md_t4, md_t5, md_t6, md_t7, md_t8, md_t9, md_t10, md_t11, md_t12, md_t13, md_t14, md_t15, md_t16, md_t17, md_t18, md_t19, md_t20, md_t21, md_t22, md_t23, md_t24, md_t25, md_t26, md_t27, md_t28, md_l1, md_l2, md_l3, md_l4, md_l5, md_l6, md_l7, md_l8, md_l9, md_l10, md_l11, md_l12, md_l13, md_l14, md_l15, md_l16, md_l17, md_l18, md_l19, md_l20, md_l21, md_l22, md_l23, md_l24, md_l25, md_l26, md_l27, md_l28]
  unfold sp_passed
  repeat' (first | (refine And.intro (by omega) ?_) | split)
  all_goals (first | rfl | (exfalso; omega) | (rw [if_pos (by omega)]) | (rw [if_neg (by omega)]))
/-- the first place of a row, from i on, that isn't passed over -/
def sp_nx (s : Int → Int) (li : Int → Int) (h t m : Int) : Nat → Int → Int
  | 0, i => i
  | n + 1, i => if i < m ∧ sp_passed s h (li (6 * t + i)) = 1 then sp_nx s li h t m n (i + 1) else i
def sp_nextIn (F : Nat → Int → Int) (s : Int → Int) (h t : Int) : Int := sp_nx s (F 7) h t (F 6 t) 6 (s (18 + t))
theorem lp_nextIn (d : Nat) (hd : 1 ≤ d) (h : am_H) (o : Nat) (I : Nat → Int) (F : Nat → Int → Int) (H : md_at h o I F) (hr : md_rg I F) (hs : rs_rg (F 13)) (th t : Int) (hh : 0 ≤ th ∧ th < 3) (ht : 0 ≤ t ∧ t < 6) : ∀ (n : Nat) (i : Int), 0 ≤ i → i ≤ 6 → F 6 t - i ≤ n → am_Go am_df am_MT d c_Md_nextIn (7, [(3, .int (iI i)), (0, .ref o), (1, .int (iI th)), (2, .int (iI t))], [], h) (fun r h' => r = some (.int (iI (sp_nx (F 13) (F 7) th t (F 6 t) n i))) ∧ h' = h) := by
  have H' := H
  obtain ⟨h0, hO, hA⟩ := H'
  have e1 := hr.2.1 t ht
  intro n
  induction n with
  | zero =>
    intro i h1 h2 h3
    refine am_go_of 40 [7, 23] _ c_Md_nextIn_7 ?_
    simp (maxSteps := 2000000) (disch := omega) only [c_Md_nextIn_0, c_Md_nextIn_1, c_Md_nextIn_2, c_Md_nextIn_3, c_Md_nextIn_4, c_Md_nextIn_5, c_Md_nextIn_6, c_Md_nextIn_7, c_Md_nextIn_8, c_Md_nextIn_9, c_Md_nextIn_10, c_Md_nextIn_11, c_Md_nextIn_12, c_Md_nextIn_13, c_Md_nextIn_14, c_Md_nextIn_15, c_Md_nextIn_16, c_Md_nextIn_17, c_Md_nextIn_18, c_Md_nextIn_19, c_Md_nextIn_20, c_Md_nextIn_21, c_Md_nextIn_22, c_Md_nextIn_23, c_Md_nextIn_24, c_Md_nextIn_25, c_Md_nextIn_26, c_Md_nextIn_27, c_Md_nextIn_28, sx_aload_n, sx_bipush, sx_getfield, sx_goto, sx_iadd, sx_iaload, sx_ifCond_eq, sx_if_icmp_ge, sx_iinc, sx_iload_n, sx_imul, sx_ireturn, sx_istore_n, sx_zreturn, am_W_s, am_W_0, am_mm_some, List.mem_cons, or_false, false_or, or_self, or_true, true_or, reduceIte, if_false, if_true, am_o_some, am_o_none, am_o_bad, am_o_good, am_ldi_hit, am_ldi_miss, am_lda_hit, am_lda_miss, am_ldl_hit, am_ldl_miss, am_inc_eq, am_inc_hit, am_inc_miss, am_ob_hit, am_fd_0, am_fd_s, am_ai_hit, am_ab_3, am_al_hit, am_aq_4, am_al0_hit, am_put_1, am_put_2, am_put_put, am_up_hit, am_up_miss, am_s1_eq, am_s2_eq, am_fl_nil, am_fl_hit, am_fl_int, am_fl_ref, am_fl_long, am_fl_longx, am_fl2_nil, am_fl2_hit, am_fl2_hit1, am_fl2_int, am_fl2_ref, am_fl2_long, List.not_mem_nil, not_false_eq_true, ne_eq, Nat.reduceAdd, Nat.reduceEqDiff, Nat.zero_add, Nat.add_left_cancel_iff, List.set_cons_zero, List.set_cons_succ, List.length_cons, List.length_nil, Nat.reduceLT, am_ft_i, am_ft_r, am_ft_z, and_true, true_and, Option.toList_some, Option.toList_none, List.cons_append, List.nil_append, List.drop_succ_cons, List.drop_zero, iI_c, iI_b, iI_s, iI_n, iI_add, iI_sub, iI_mul, iI_neg, iI_nle, iI_ix, iI_eq0, iI_eq1, iI_lt0, iI_0lt, iI_le0, iI_0le, iI_eq, iI_lt, iI_le, iI_upd, iI_updZ, hO, hA, md_fs_len, md_f0, md_f1, md_f2, md_f3, md_f4, md_f5, md_f6, md_f7, md_f8, md_f9, md_f10, md_f11, md_f12, md_f13, md_f14, md_f15, md_f16, md_f17, md_f18, md_f19, md_f20, md_f21, md_f22, md_f23, md_f24, md_f25, md_f26, md_f27, md_f28, md_f29, md_f30, md_f31, md_f32, md_f33, md_f34, md_f35, md_s0, md_s1, md_s15, md_s16, md_s17, md_s23, md_s24, md_s31, md_t1, md_t2, md_t3, md_t4, md_t5, md_t6, md_t7, md_t8, md_t9, md_t10, md_t11, md_t12, md_t13, md_t14, md_t15, md_t16, md_t17, md_t18, md_t19, md_t20, md_t21, md_t22, md_t23, md_t24, md_t25, md_t26, md_t27, md_t28, md_l1, md_l2, md_l3, md_l4, md_l5, md_l6, md_l7, md_l8, md_l9, md_l10, md_l11, md_l12, md_l13, md_l14, md_l15, md_l16, md_l17, md_l18, md_l19, md_l20, md_l21, md_l22, md_l23, md_l24, md_l25, md_l26, md_l27, md_l28]
    refine ⟨by omega, ?_⟩
    rw [if_pos (by omega)]
    rfl
  | succ n ih =>
    intro i h1 h2 h3
    refine am_go_of 40 [7, 23] _ c_Md_nextIn_7 ?_
    simp (maxSteps := 2000000) (disch := omega) only [c_Md_nextIn_0, c_Md_nextIn_1, c_Md_nextIn_2, c_Md_nextIn_3, c_Md_nextIn_4, c_Md_nextIn_5, c_Md_nextIn_6, c_Md_nextIn_7, c_Md_nextIn_8, c_Md_nextIn_9, c_Md_nextIn_10, c_Md_nextIn_11, c_Md_nextIn_12, c_Md_nextIn_13, c_Md_nextIn_14, c_Md_nextIn_15, c_Md_nextIn_16, c_Md_nextIn_17, c_Md_nextIn_18, c_Md_nextIn_19, c_Md_nextIn_20, c_Md_nextIn_21, c_Md_nextIn_22, c_Md_nextIn_23, c_Md_nextIn_24, c_Md_nextIn_25, c_Md_nextIn_26, c_Md_nextIn_27, c_Md_nextIn_28, sx_aload_n, sx_bipush, sx_getfield, sx_goto, sx_iadd, sx_iaload, sx_ifCond_eq, sx_if_icmp_ge, sx_iinc, sx_iload_n, sx_imul, sx_ireturn, sx_istore_n, sx_zreturn, am_W_s, am_W_0, am_mm_some, List.mem_cons, or_false, false_or, or_self, or_true, true_or, reduceIte, if_false, if_true, am_o_some, am_o_none, am_o_bad, am_o_good, am_ldi_hit, am_ldi_miss, am_lda_hit, am_lda_miss, am_ldl_hit, am_ldl_miss, am_inc_eq, am_inc_hit, am_inc_miss, am_ob_hit, am_fd_0, am_fd_s, am_ai_hit, am_ab_3, am_al_hit, am_aq_4, am_al0_hit, am_put_1, am_put_2, am_put_put, am_up_hit, am_up_miss, am_s1_eq, am_s2_eq, am_fl_nil, am_fl_hit, am_fl_int, am_fl_ref, am_fl_long, am_fl_longx, am_fl2_nil, am_fl2_hit, am_fl2_hit1, am_fl2_int, am_fl2_ref, am_fl2_long, List.not_mem_nil, not_false_eq_true, ne_eq, Nat.reduceAdd, Nat.reduceEqDiff, Nat.zero_add, Nat.add_left_cancel_iff, List.set_cons_zero, List.set_cons_succ, List.length_cons, List.length_nil, Nat.reduceLT, am_ft_i, am_ft_r, am_ft_z, and_true, true_and, Option.toList_some, Option.toList_none, List.cons_append, List.nil_append, List.drop_succ_cons, List.drop_zero, iI_c, iI_b, iI_s, iI_n, iI_add, iI_sub, iI_mul, iI_neg, iI_nle, iI_ix, iI_eq0, iI_eq1, iI_lt0, iI_0lt, iI_le0, iI_0le, iI_eq, iI_lt, iI_le, iI_upd, iI_updZ, hO, hA, md_fs_len, md_f0, md_f1, md_f2, md_f3, md_f4, md_f5, md_f6, md_f7, md_f8, md_f9, md_f10, md_f11, md_f12, md_f13, md_f14, md_f15, md_f16, md_f17, md_f18, md_f19, md_f20, md_f21, md_f22, md_f23, md_f24, md_f25, md_f26, md_f27, md_f28, md_f29, md_f30, md_f31, md_f32, md_f33, md_f34, md_f35, md_s0, md_s1, md_s15, md_s16, md_s17, md_s23, md_s24, md_s31, md_t1, md_t2, md_t3, md_t4, md_t5, md_t6, md_t7, md_t8, md_t9, md_t10, md_t11, md_t12, md_t13, md_t14, md_t15, md_t16, md_t17, md_t18, md_t19, md_t20, md_t21, md_t22, md_t23, md_t24, md_t25, md_t26, md_t27, md_t28, md_l1, md_l2, md_l3, md_l4, md_l5, md_l6, md_l7, md_l8, md_l9, md_l10, md_l11, md_l12, md_l13, md_l14, md_l15, md_l16, md_l17, md_l18, md_l19, md_l20, md_l21, md_l22, md_l23, md_l24, md_l25, md_l26, md_l27, md_l28]
    refine ⟨by omega, ?_⟩
    split
    · unfold sp_nx
      rw [if_neg (by omega)]
    · rename_i hlt
      have e2 := hr.2.2.2.1 (6 * t + i) (by omega)
      refine ⟨by omega, ?_⟩
      refine am_go_call c_Md_nextIn_23 (by decide) (by decide) (by simp [am_can, am_kd, Value.category, hO]) ?_
      refine (ct_isPassed d hd h o I F H hs th (F 7 (6 * t + i)) hh (by omega)).mono (fun r h' hr => ?_)
      obtain ⟨rfl, rfl⟩ := hr
      have e3 := sp_passed_01 (s := F 13) (h := th) (t := F 7 (6 * t + i))
      refine am_go_of 40 [7, 23] _ c_Md_nextIn_24 ?_
      simp (maxSteps := 2000000) (disch := omega) only [c_Md_nextIn_0, c_Md_nextIn_1, c_Md_nextIn_2, c_Md_nextIn_3, c_Md_nextIn_4, c_Md_nextIn_5, c_Md_nextIn_6, c_Md_nextIn_7, c_Md_nextIn_8, c_Md_nextIn_9, c_Md_nextIn_10, c_Md_nextIn_11, c_Md_nextIn_12, c_Md_nextIn_13, c_Md_nextIn_14, c_Md_nextIn_15, c_Md_nextIn_16, c_Md_nextIn_17, c_Md_nextIn_18, c_Md_nextIn_19, c_Md_nextIn_20, c_Md_nextIn_21, c_Md_nextIn_22, c_Md_nextIn_23, c_Md_nextIn_24, c_Md_nextIn_25, c_Md_nextIn_26, c_Md_nextIn_27, c_Md_nextIn_28, sx_aload_n, sx_bipush, sx_getfield, sx_goto, sx_iadd, sx_iaload, sx_ifCond_eq, sx_if_icmp_ge, sx_iinc, sx_iload_n, sx_imul, sx_ireturn, sx_istore_n, sx_zreturn, am_W_s, am_W_0, am_mm_some, List.mem_cons, or_false, false_or, or_self, or_true, true_or, reduceIte, if_false, if_true, am_o_some, am_o_none, am_o_bad, am_o_good, am_ldi_hit, am_ldi_miss, am_lda_hit, am_lda_miss, am_ldl_hit, am_ldl_miss, am_inc_eq, am_inc_hit, am_inc_miss, am_ob_hit, am_fd_0, am_fd_s, am_ai_hit, am_ab_3, am_al_hit, am_aq_4, am_al0_hit, am_put_1, am_put_2, am_put_put, am_up_hit, am_up_miss, am_s1_eq, am_s2_eq, am_fl_nil, am_fl_hit, am_fl_int, am_fl_ref, am_fl_long, am_fl_longx, am_fl2_nil, am_fl2_hit, am_fl2_hit1, am_fl2_int, am_fl2_ref, am_fl2_long, List.not_mem_nil, not_false_eq_true, ne_eq, Nat.reduceAdd, Nat.reduceEqDiff, Nat.zero_add, Nat.add_left_cancel_iff, List.set_cons_zero, List.set_cons_succ, List.length_cons, List.length_nil, Nat.reduceLT, am_ft_i, am_ft_r, am_ft_z, and_true, true_and, Option.toList_some, Option.toList_none, List.cons_append, List.nil_append, List.drop_succ_cons, List.drop_zero, iI_c, iI_b, iI_s, iI_n, iI_add, iI_sub, iI_mul, iI_neg, iI_nle, iI_ix, iI_eq0, iI_eq1, iI_lt0, iI_0lt, iI_le0, iI_0le, iI_eq, iI_lt, iI_le, iI_upd, iI_updZ, hO, hA, md_fs_len, md_f0, md_f1, md_f2, md_f3, md_f4, md_f5, md_f6, md_f7, md_f8, md_f9, md_f10, md_f11, md_f12, md_f13, md_f14, md_f15, md_f16, md_f17, md_f18, md_f19, md_f20, md_f21, md_f22, md_f23, md_f24, md_f25, md_f26, md_f27, md_f28, md_f29, md_f30, md_f31, md_f32, md_f33, md_f34, md_f35, md_s0, md_s1, md_s15, md_s16, md_s17, md_s23, md_s24, md_s31, md_t1, md_t2, md_t3, md_t4, md_t5, md_t6, md_t7, md_t8, md_t9, md_t10, md_t11, md_t12, md_t13, md_t14, md_t15, md_t16, md_t17, md_t18, md_t19, md_t20, md_t21, md_t22, md_t23, md_t24, md_t25, md_t26, md_t27, md_t28, md_l1, md_l2, md_l3, md_l4, md_l5, md_l6, md_l7, md_l8, md_l9, md_l10, md_l11, md_l12, md_l13, md_l14, md_l15, md_l16, md_l17, md_l18, md_l19, md_l20, md_l21, md_l22, md_l23, md_l24, md_l25, md_l26, md_l27, md_l28]
      unfold sp_nx
      split
      · rw [if_neg (by omega)]
      · rw [if_pos (by omega)]
        exact ih (i + 1) (by omega) (by omega) (by omega)
theorem ct_nextIn (d : Nat) (hd : 2 ≤ d) (h : am_H) (o : Nat) (I : Nat → Int) (F : Nat → Int → Int) (H : md_at h o I F) (hr : md_rg I F) (hs : rs_rg (F 13)) (th t : Int) (hh : 0 ≤ th ∧ th < 3) (ht : 0 ≤ t ∧ t < 6) (h9 : 0 ≤ F 13 (18 + t)) : am_Ct am_df am_MT d 125 [.ref o, .int (iI th), .int (iI t)] h (fun r h' => r = some (.int (iI (sp_nextIn F (F 13) th t))) ∧ h' = h) := by
  have H' := H
  obtain ⟨h0, hO, hA⟩ := H'
  have e1 := hs.1 t ht
  have e2 := hr.2.1 t ht
  obtain ⟨d, rfl⟩ : ∃ e, d = e + 1 := ⟨d - 1, by omega⟩
  refine am_ct_of2 mt_Md_nextIn (Nat.le_of_ble_eq_true rfl) ?_
  simp only [ar_nil, ar_int, ar_ref, ar_long, Nat.reduceAdd]
  refine am_go_of 40 [7, 23] _ c_Md_nextIn_0 ?_
  simp (maxSteps := 2000000) (disch := omega) only [c_Md_nextIn_0, c_Md_nextIn_1, c_Md_nextIn_2, c_Md_nextIn_3, c_Md_nextIn_4, c_Md_nextIn_5, c_Md_nextIn_6, c_Md_nextIn_7, c_Md_nextIn_8, c_Md_nextIn_9, c_Md_nextIn_10, c_Md_nextIn_11, c_Md_nextIn_12, c_Md_nextIn_13, c_Md_nextIn_14, c_Md_nextIn_15, c_Md_nextIn_16, c_Md_nextIn_17, c_Md_nextIn_18, c_Md_nextIn_19, c_Md_nextIn_20, c_Md_nextIn_21, c_Md_nextIn_22, c_Md_nextIn_23, c_Md_nextIn_24, c_Md_nextIn_25, c_Md_nextIn_26, c_Md_nextIn_27, c_Md_nextIn_28, sx_aload_n, sx_bipush, sx_getfield, sx_goto, sx_iadd, sx_iaload, sx_ifCond_eq, sx_if_icmp_ge, sx_iinc, sx_iload_n, sx_imul, sx_ireturn, sx_istore_n, sx_zreturn, am_W_s, am_W_0, am_mm_some, List.mem_cons, or_false, false_or, or_self, or_true, true_or, reduceIte, if_false, if_true, am_o_some, am_o_none, am_o_bad, am_o_good, am_ldi_hit, am_ldi_miss, am_lda_hit, am_lda_miss, am_ldl_hit, am_ldl_miss, am_inc_eq, am_inc_hit, am_inc_miss, am_ob_hit, am_fd_0, am_fd_s, am_ai_hit, am_ab_3, am_al_hit, am_aq_4, am_al0_hit, am_put_1, am_put_2, am_put_put, am_up_hit, am_up_miss, am_s1_eq, am_s2_eq, am_fl_nil, am_fl_hit, am_fl_int, am_fl_ref, am_fl_long, am_fl_longx, am_fl2_nil, am_fl2_hit, am_fl2_hit1, am_fl2_int, am_fl2_ref, am_fl2_long, List.not_mem_nil, not_false_eq_true, ne_eq, Nat.reduceAdd, Nat.reduceEqDiff, Nat.zero_add, Nat.add_left_cancel_iff, List.set_cons_zero, List.set_cons_succ, List.length_cons, List.length_nil, Nat.reduceLT, am_ft_i, am_ft_r, am_ft_z, and_true, true_and, Option.toList_some, Option.toList_none, List.cons_append, List.nil_append, List.drop_succ_cons, List.drop_zero, iI_c, iI_b, iI_s, iI_n, iI_add, iI_sub, iI_mul, iI_neg, iI_nle, iI_ix, iI_eq0, iI_eq1, iI_lt0, iI_0lt, iI_le0, iI_0le, iI_eq, iI_lt, iI_le, iI_upd, iI_updZ, hO, hA, md_fs_len, md_f0, md_f1, md_f2, md_f3, md_f4, md_f5, md_f6, md_f7, md_f8, md_f9, md_f10, md_f11, md_f12, md_f13, md_f14, md_f15, md_f16, md_f17, md_f18, md_f19, md_f20, md_f21, md_f22, md_f23, md_f24, md_f25, md_f26, md_f27, md_f28, md_f29, md_f30, md_f31, md_f32, md_f33, md_f34, md_f35, md_s0, md_s1, md_s15, md_s16, md_s17, md_s23, md_s24, md_s31, md_t1, md_t2, md_t3, md_t4, md_t5, md_t6, md_t7, md_t8, md_t9, md_t10, md_t11, md_t12, md_t13, md_t14, md_t15, md_t16, md_t17, md_t18, md_t19, md_t20, md_t21, md_t22, md_t23, md_t24, md_t25, md_t26, md_t27, md_t28, md_l1, md_l2, md_l3, md_l4, md_l5, md_l6, md_l7, md_l8, md_l9, md_l10, md_l11, md_l12, md_l13, md_l14, md_l15, md_l16, md_l17, md_l18, md_l19, md_l20, md_l21, md_l22, md_l23, md_l24, md_l25, md_l26, md_l27, md_l28]
  refine ⟨by omega, ?_⟩
  exact lp_nextIn d (by omega) h o I F H hr hs th t hh ht 6 _ (by omega) (by omega) (by omega)
