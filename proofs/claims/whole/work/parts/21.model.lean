theorem mt_Md_fieldThrough : am_MT[128]? = some m_Md_fieldThrough := rfl
theorem c_Md_fieldThrough_0 : c_Md_fieldThrough[0]? = some (0, 1, .aload_n 0, 0, 0, 0, 0, 0, []) := Eq.trans rfl rfl
theorem c_Md_fieldThrough_1 : c_Md_fieldThrough[1]? = some (1, 3, .getfield 59, 8, 21, 0, 0, 778, []) := Eq.trans rfl rfl
theorem c_Md_fieldThrough_2 : c_Md_fieldThrough[2]? = some (4, 1, .iload_n 1, 1, 0, 0, 0, 0, []) := Eq.trans rfl rfl
theorem c_Md_fieldThrough_3 : c_Md_fieldThrough[3]? = some (5, 1, .iaload, 0, 0, 0, 0, 0, []) := Eq.trans rfl rfl
theorem c_Md_fieldThrough_4 : c_Md_fieldThrough[4]? = some (6, 1, .ireturn, 0, 0, 0, 0, 0, []) := Eq.trans rfl rfl
theorem mt_Md_asked : am_MT[127]? = some m_Md_asked := rfl
theorem c_Md_asked_0 : c_Md_asked[0]? = some (0, 1, .aload_n 0, 0, 0, 0, 0, 0, []) := Eq.trans rfl rfl
theorem c_Md_asked_1 : c_Md_asked[1]? = some (1, 3, .getfield 35, 8, 10, 0, 0, 767, []) := Eq.trans rfl rfl
theorem c_Md_asked_2 : c_Md_asked[2]? = some (4, 1, .iconst 5, 0, 0, 0, 0, 0, []) := Eq.trans rfl rfl
theorem c_Md_asked_3 : c_Md_asked[3]? = some (5, 1, .iload_n 1, 1, 0, 0, 0, 0, []) := Eq.trans rfl rfl
theorem c_Md_asked_4 : c_Md_asked[4]? = some (6, 1, .imul, 0, 0, 0, 0, 0, []) := Eq.trans rfl rfl
theorem c_Md_asked_5 : c_Md_asked[5]? = some (7, 1, .iload_n 2, 2, 0, 0, 0, 0, []) := Eq.trans rfl rfl
theorem c_Md_asked_6 : c_Md_asked[6]? = some (8, 1, .iadd, 0, 0, 0, 0, 0, []) := Eq.trans rfl rfl
theorem c_Md_asked_7 : c_Md_asked[7]? = some (9, 1, .iaload, 0, 0, 0, 0, 0, []) := Eq.trans rfl rfl
theorem c_Md_asked_8 : c_Md_asked[8]? = some (10, 1, .istore_n 3, 3, 0, 0, 0, 0, []) := Eq.trans rfl rfl
theorem c_Md_asked_9 : c_Md_asked[9]? = some (11, 1, .aload_n 0, 0, 0, 0, 0, 0, []) := Eq.trans rfl rfl
theorem c_Md_asked_10 : c_Md_asked[10]? = some (12, 3, .getfield 38, 8, 11, 0, 0, 768, []) := Eq.trans rfl rfl
theorem c_Md_asked_11 : c_Md_asked[11]? = some (15, 1, .iconst 5, 0, 0, 0, 0, 0, []) := Eq.trans rfl rfl
theorem c_Md_asked_12 : c_Md_asked[12]? = some (16, 1, .iload_n 1, 1, 0, 0, 0, 0, []) := Eq.trans rfl rfl
theorem c_Md_asked_13 : c_Md_asked[13]? = some (17, 1, .imul, 0, 0, 0, 0, 0, []) := Eq.trans rfl rfl
theorem c_Md_asked_14 : c_Md_asked[14]? = some (18, 1, .iload_n 2, 2, 0, 0, 0, 0, []) := Eq.trans rfl rfl
theorem c_Md_asked_15 : c_Md_asked[15]? = some (19, 1, .iadd, 0, 0, 0, 0, 0, []) := Eq.trans rfl rfl
theorem c_Md_asked_16 : c_Md_asked[16]? = some (20, 1, .iaload, 0, 0, 0, 0, 0, []) := Eq.trans rfl rfl
theorem c_Md_asked_17 : c_Md_asked[17]? = some (21, 2, .istore 4, 4, 0, 0, 0, 0, []) := Eq.trans rfl rfl
theorem c_Md_asked_18 : c_Md_asked[18]? = some (23, 1, .iload_n 3, 3, 0, 0, 0, 0, []) := Eq.trans rfl rfl
theorem c_Md_asked_19 : c_Md_asked[19]? = some (24, 1, .iconst 2, 0, 0, 0, 0, 0, []) := Eq.trans rfl rfl
theorem c_Md_asked_20 : c_Md_asked[20]? = some (25, 3, .if_icmp .le 5, 23, 0, 0, 0, 0, []) := Eq.trans rfl rfl
theorem c_Md_asked_21 : c_Md_asked[21]? = some (28, 1, .iconst (-1), 0, 0, 0, 0, 0, []) := Eq.trans rfl rfl
theorem c_Md_asked_22 : c_Md_asked[22]? = some (29, 1, .ireturn, 0, 0, 0, 0, 0, []) := Eq.trans rfl rfl
theorem c_Md_asked_23 : c_Md_asked[23]? = some (30, 1, .iload_n 3, 3, 0, 0, 0, 0, []) := Eq.trans rfl rfl
theorem c_Md_asked_24 : c_Md_asked[24]? = some (31, 1, .iconst 2, 0, 0, 0, 0, 0, []) := Eq.trans rfl rfl
theorem c_Md_asked_25 : c_Md_asked[25]? = some (32, 3, .if_icmp .ne 6, 28, 0, 0, 0, 0, []) := Eq.trans rfl rfl
theorem c_Md_asked_26 : c_Md_asked[26]? = some (35, 2, .iload 4, 4, 0, 0, 0, 0, []) := Eq.trans rfl rfl
theorem c_Md_asked_27 : c_Md_asked[27]? = some (37, 1, .ireturn, 0, 0, 0, 0, 0, []) := Eq.trans rfl rfl
theorem c_Md_asked_28 : c_Md_asked[28]? = some (38, 1, .aload_n 0, 0, 0, 0, 0, 0, []) := Eq.trans rfl rfl
theorem c_Md_asked_29 : c_Md_asked[29]? = some (39, 2, .iload 4, 4, 0, 0, 0, 0, []) := Eq.trans rfl rfl
theorem c_Md_asked_30 : c_Md_asked[30]? = some (41, 3, .invokevirtual 144, 128, 2, 8, 0, 952, []) := Eq.trans rfl rfl
theorem c_Md_asked_31 : c_Md_asked[31]? = some (44, 2, .istore 5, 5, 0, 0, 0, 0, []) := Eq.trans rfl rfl
theorem c_Md_asked_32 : c_Md_asked[32]? = some (46, 2, .iload 5, 5, 0, 0, 0, 0, []) := Eq.trans rfl rfl
theorem c_Md_asked_33 : c_Md_asked[33]? = some (48, 1, .iconst (-1), 0, 0, 0, 0, 0, []) := Eq.trans rfl rfl
theorem c_Md_asked_34 : c_Md_asked[34]? = some (49, 3, .if_icmp .eq 24, 46, 0, 0, 0, 0, []) := Eq.trans rfl rfl
theorem c_Md_asked_35 : c_Md_asked[35]? = some (52, 1, .iload_n 3, 3, 0, 0, 0, 0, []) := Eq.trans rfl rfl
theorem c_Md_asked_36 : c_Md_asked[36]? = some (53, 1, .iconst 1, 0, 0, 0, 0, 0, []) := Eq.trans rfl rfl
theorem c_Md_asked_37 : c_Md_asked[37]? = some (54, 3, .if_icmp .ne 22, 48, 0, 0, 0, 0, []) := Eq.trans rfl rfl
theorem c_Md_asked_38 : c_Md_asked[38]? = some (57, 1, .aload_n 0, 0, 0, 0, 0, 0, []) := Eq.trans rfl rfl
theorem c_Md_asked_39 : c_Md_asked[39]? = some (58, 3, .getfield 7, 8, 2, 0, 0, 759, []) := Eq.trans rfl rfl
theorem c_Md_asked_40 : c_Md_asked[40]? = some (61, 2, .iload 5, 5, 0, 0, 0, 0, []) := Eq.trans rfl rfl
theorem c_Md_asked_41 : c_Md_asked[41]? = some (63, 1, .iaload, 0, 0, 0, 0, 0, []) := Eq.trans rfl rfl
theorem c_Md_asked_42 : c_Md_asked[42]? = some (64, 3, .ifCond .eq 12, 48, 0, 0, 0, 0, []) := Eq.trans rfl rfl
theorem c_Md_asked_43 : c_Md_asked[43]? = some (67, 1, .iload_n 1, 1, 0, 0, 0, 0, []) := Eq.trans rfl rfl
theorem c_Md_asked_44 : c_Md_asked[44]? = some (68, 2, .iload 5, 5, 0, 0, 0, 0, []) := Eq.trans rfl rfl
theorem c_Md_asked_45 : c_Md_asked[45]? = some (70, 3, .if_icmp .eq 6, 48, 0, 0, 0, 0, []) := Eq.trans rfl rfl
theorem c_Md_asked_46 : c_Md_asked[46]? = some (73, 2, .bipush (-5), 0, 0, 0, 0, 0, []) := Eq.trans rfl rfl
theorem c_Md_asked_47 : c_Md_asked[47]? = some (75, 1, .ireturn, 0, 0, 0, 0, 0, []) := Eq.trans rfl rfl
theorem c_Md_asked_48 : c_Md_asked[48]? = some (76, 2, .iload 5, 5, 0, 0, 0, 0, []) := Eq.trans rfl rfl
theorem c_Md_asked_49 : c_Md_asked[49]? = some (78, 1, .ireturn, 0, 0, 0, 0, 0, []) := Eq.trans rfl rfl
theorem ct_fieldThrough (d : Nat) (hd : 1 ≤ d) (h : am_H) (o : Nat) (I : Nat → Int) (F : Nat → Int → Int) (H : md_at h o I F) (t : Int) (ht : 0 ≤ t ∧ t < 6) : am_Ct am_df am_MT d 128 [.ref o, .int (iI t)] h (fun r h' => r = some (.int (iI (F 17 t))) ∧ h' = h) := by
  obtain ⟨h0, hO, hA⟩ := H
  obtain ⟨d, rfl⟩ : ∃ e, d = e + 1 := ⟨d - 1, by omega⟩
  refine am_ct_of2 mt_Md_fieldThrough (Nat.le_of_ble_eq_true rfl) ?_
  simp only [ar_nil, ar_int, ar_ref, ar_long, Nat.reduceAdd]
  refine am_go_of 10 [] _ c_Md_fieldThrough_0 ?_
  simp (maxSteps := 2000000) (disch := omega) only [c_Md_fieldThrough_0, c_Md_fieldThrough_1, c_Md_fieldThrough_2, c_Md_fieldThrough_3, c_Md_fieldThrough_4, sx_aload_n, sx_getfield, sx_iaload, sx_iload_n, sx_ireturn, sx_zreturn, am_W_s, am_W_0, am_mm_some, List.mem_cons, or_false, false_or, or_self, or_true, true_or, reduceIte, if_false, if_true, am_o_some, am_o_none, am_o_bad, am_o_good, am_ldi_hit, am_ldi_miss, am_lda_hit, am_lda_miss, am_ldl_hit, am_ldl_miss, am_inc_eq, am_inc_hit, am_inc_miss, am_ob_hit, am_fd_0, am_fd_s, am_ai_hit, am_ab_3, am_al_hit, am_aq_4, am_al0_hit, am_put_1, am_put_2, am_put_put, am_up_hit, am_up_miss, am_s1_eq, am_s2_eq, am_fl_nil, am_fl_hit, am_fl_int, am_fl_ref, am_fl_long, am_fl_longx, am_fl2_nil, am_fl2_hit, am_fl2_hit1, am_fl2_int, am_fl2_ref, am_fl2_long, List.not_mem_nil, not_false_eq_true, ne_eq, Nat.reduceAdd, Nat.reduceEqDiff, Nat.zero_add, Nat.add_left_cancel_iff, List.set_cons_zero, List.set_cons_succ, List.length_cons, List.length_nil, Nat.reduceLT, am_ft_i, am_ft_r, am_ft_z, and_true, true_and, Option.toList_some, Option.toList_none, List.cons_append, List.nil_append, List.drop_succ_cons, List.drop_zero, iI_c, iI_b, iI_s, iI_n, iI_add, iI_sub, iI_mul, iI_neg, iI_nle, iI_ix, iI_eq0, iI_eq1, iI_lt0, iI_0lt, iI_le0, iI_0le, iI_eq, iI_lt, iI_le, iI_upd, iI_updZ, hO, hA, md_fs_len, md_f0, md_f1, md_f2, md_f3, md_f4, md_f5, md_f6, md_f7, md_f8, md_f9, md_f10, md_f11, md_f12, md_f13, md_f14, md_f15, md_f16, md_f17, md_f18, md_f19, md_f20, md_f21, md_f22, md_f23, md_f24, md_f25, md_f26, md_f27, md_f28, md_f29, md_f30, md_f31, md_f32, md_f33, md_f34, md_f35, md_s0, md_s1, md_s15, md_s16, md_s17, md_s23, md_s24, md_s31, md_t1, md_t2, md_t3, md_t4, md_t5, md_t6, md_t7, md_t8, md_t9, md_t10, md_t11, md_t12, md_t13, md_t14, md_t15, md_t16, md_t17, md_t18, md_t19, md_t20, md_t21, md_t22, md_t23, md_t24, md_t25, md_t26, md_t27, md_t28, md_l1, md_l2, md_l3, md_l4, md_l5, md_l6, md_l7, md_l8, md_l9, md_l10, md_l11, md_l12, md_l13, md_l14, md_l15, md_l16, md_l17, md_l18, md_l19, md_l20, md_l21, md_l22, md_l23, md_l24, md_l25, md_l26, md_l27, md_l28]
  omega
/-- what an ACTION asks for: a TYPE, -1 nothing, -5 there is no FIELD that it could take -/
def sp_asked (F : Nat → Int → Int) (b k : Int) : Int :=
  if 2 < F 9 (5 * b + k) then -1 else if F 9 (5 * b + k) = 2 then F 10 (5 * b + k) else
  if F 17 (F 10 (5 * b + k)) = -1 ∨ F 9 (5 * b + k) = 1 ∧ F 1 (F 17 (F 10 (5 * b + k))) ≠ 0 ∧ b ≠ F 17 (F 10 (5 * b + k)) then -5 else F 17 (F 10 (5 * b + k))
theorem ct_asked (d : Nat) (hd : 2 ≤ d) (h : am_H) (o : Nat) (I : Nat → Int) (F : Nat → Int → Int) (H : md_at h o I F) (hr : md_rg I F) (b k : Int) (hb : 0 ≤ b ∧ b < 9) (hk : 0 ≤ k ∧ k < 5) : am_Ct am_df am_MT d 127 [.ref o, .int (iI b), .int (iI k)] h (fun r h' => r = some (.int (iI (sp_asked F b k))) ∧ h' = h) := by
  have H' := H
  obtain ⟨h0, hO, hA⟩ := H'
  have e1 := hr.2.2.2.2.2 (5 * b + k) (by omega)
  obtain ⟨d, rfl⟩ : ∃ e, d = e + 1 := ⟨d - 1, by omega⟩
  refine am_ct_of2 mt_Md_asked (Nat.le_of_ble_eq_true rfl) ?_
  simp only [ar_nil, ar_int, ar_ref, ar_long, Nat.reduceAdd]
  refine am_go_of 60 [30] _ c_Md_asked_0 ?_
  simp (maxSteps := 2000000) (disch := omega) only [c_Md_asked_0, c_Md_asked_1, c_Md_asked_2, c_Md_asked_3, c_Md_asked_4, c_Md_asked_5, c_Md_asked_6, c_Md_asked_7, c_Md_asked_8, c_Md_asked_9, c_Md_asked_10, c_Md_asked_11, c_Md_asked_12, c_Md_asked_13, c_Md_asked_14, c_Md_asked_15, c_Md_asked_16, c_Md_asked_17, c_Md_asked_18, c_Md_asked_19, c_Md_asked_20, c_Md_asked_21, c_Md_asked_22, c_Md_asked_23, c_Md_asked_24, c_Md_asked_25, c_Md_asked_26, c_Md_asked_27, c_Md_asked_28, c_Md_asked_29, c_Md_asked_30, c_Md_asked_31, c_Md_asked_32, c_Md_asked_33, c_Md_asked_34, c_Md_asked_35, c_Md_asked_36, c_Md_asked_37, c_Md_asked_38, c_Md_asked_39, c_Md_asked_40, c_Md_asked_41, c_Md_asked_42, c_Md_asked_43, c_Md_asked_44, c_Md_asked_45, c_Md_asked_46, c_Md_asked_47, c_Md_asked_48, c_Md_asked_49, sx_aload_n, sx_bipush, sx_getfield, sx_iadd, sx_iaload, sx_iconst, sx_ifCond_eq, sx_if_icmp_eq, sx_if_icmp_le, sx_if_icmp_ne, sx_iload, sx_iload_n, sx_imul, sx_ireturn, sx_istore, sx_istore_n, sx_zreturn, am_W_s, am_W_0, am_mm_some, List.mem_cons, or_false, false_or, or_self, or_true, true_or, reduceIte, if_false, if_true, am_o_some, am_o_none, am_o_bad, am_o_good, am_ldi_hit, am_ldi_miss, am_lda_hit, am_lda_miss, am_ldl_hit, am_ldl_miss, am_inc_eq, am_inc_hit, am_inc_miss, am_ob_hit, am_fd_0, am_fd_s, am_ai_hit, am_ab_3, am_al_hit, am_aq_4, am_al0_hit, am_put_1, am_put_2, am_put_put, am_up_hit, am_up_miss, am_s1_eq, am_s2_eq, am_fl_nil, am_fl_hit, am_fl_int, am_fl_ref, am_fl_long, am_fl_longx, am_fl2_nil, am_fl2_hit, am_fl2_hit1, am_fl2_int, am_fl2_ref, am_fl2_long, List.not_mem_nil, not_false_eq_true, ne_eq, Nat.reduceAdd, Nat.reduceEqDiff, Nat.zero_add, Nat.add_left_cancel_iff, List.set_cons_zero, List.set_cons_succ, List.length_cons, List.length_nil, Nat.reduceLT, am_ft_i, am_ft_r, am_ft_z, and_true, true_and, Option.toList_some, Option.toList_none, List.cons_append, List.nil_append, List.drop_succ_cons, List.drop_zero, iI_c, iI_b, iI_s, iI_n, iI_add, iI_sub, iI_mul, iI_neg, iI_nle, iI_ix, iI_eq0, iI_eq1, iI_lt0, iI_0lt, iI_le0, iI_0le, iI_eq, iI_lt, iI_le, iI_upd, iI_updZ, hO, hA, md_fs_len, md_f0, md_f1, md_f2, md_f3, md_f4, md_f5, md_f6, md_f7, md_f8, md_f9, md_f10, md_f11, md_f12, md_f13, md_f14, md_f15, md_f16, md_f17, md_f18, md_f19, md_f20, md_f21, md_f22, md_f23, md_f24, md_f25, md_f26, md_f27, md_f28, md_f29, md_f30, md_f31, md_f32, md_f33, md_f34, md_f35, md_s0, md_s1, md_s15, md_s16, md_s17, md_s23, md_s24, md_s31, md_t1, md_t2, md_t3, md_t4, md_t5, md_t6, md_t7, md_t8, md_t9, md_t10, md_t11, md_t12, md_t13, md_t14, md_t15, md_t16, md_t17, md_t18, md_t19, md_t20, md_t21, md_t22, md_t23, md_t24, md_t25, md_t26, md_t27, md_t28, md_l1, md_l2, md_l3, md_l4, md_l5, md_l6, md_l7, md_l8, md_l9, md_l10, md_l11, md_l12, md_l13, md_l14, md_l15, md_l16, md_l17, md_l18, md_l19, md_l20, md_l21, md_l22, md_l23, md_l24, md_l25, md_l26, md_l27, md_l28]
  refine ⟨by omega, by omega, ?_⟩
  split
  · split
    · unfold sp_asked
      (repeat' split) <;> first | rfl | (exfalso; omega)
    · have e2 := hr.2.1 (F 10 (5 * b + k)) (by omega)
      refine am_go_call c_Md_asked_30 (by decide) (by decide) (by simp [am_can, am_kd, Value.category, hO]) ?_
      refine (ct_fieldThrough d (by omega) h o I F H (F 10 (5 * b + k)) (by omega)).mono (fun r h' hr9 => ?_)
      obtain ⟨rfl, rfl⟩ := hr9
      by_cases e4 : F 17 (F 10 (5 * b + k)) = -1
      · refine am_go_of 60 [30] _ c_Md_asked_31 ?_
        simp (maxSteps := 2000000) (disch := omega) only [c_Md_asked_0, c_Md_asked_1, c_Md_asked_2, c_Md_asked_3, c_Md_asked_4, c_Md_asked_5, c_Md_asked_6, c_Md_asked_7, c_Md_asked_8, c_Md_asked_9, c_Md_asked_10, c_Md_asked_11, c_Md_asked_12, c_Md_asked_13, c_Md_asked_14, c_Md_asked_15, c_Md_asked_16, c_Md_asked_17, c_Md_asked_18, c_Md_asked_19, c_Md_asked_20, c_Md_asked_21, c_Md_asked_22, c_Md_asked_23, c_Md_asked_24, c_Md_asked_25, c_Md_asked_26, c_Md_asked_27, c_Md_asked_28, c_Md_asked_29, c_Md_asked_30, c_Md_asked_31, c_Md_asked_32, c_Md_asked_33, c_Md_asked_34, c_Md_asked_35, c_Md_asked_36, c_Md_asked_37, c_Md_asked_38, c_Md_asked_39, c_Md_asked_40, c_Md_asked_41, c_Md_asked_42, c_Md_asked_43, c_Md_asked_44, c_Md_asked_45, c_Md_asked_46, c_Md_asked_47, c_Md_asked_48, c_Md_asked_49, sx_aload_n, sx_bipush, sx_getfield, sx_iadd, sx_iaload, sx_iconst, sx_ifCond_eq, sx_if_icmp_eq, sx_if_icmp_le, sx_if_icmp_ne, sx_iload, sx_iload_n, sx_imul, sx_ireturn, sx_istore, sx_istore_n, sx_zreturn, am_W_s, am_W_0, am_mm_some, List.mem_cons, or_false, false_or, or_self, or_true, true_or, reduceIte, if_false, if_true, am_o_some, am_o_none, am_o_bad, am_o_good, am_ldi_hit, am_ldi_miss, am_lda_hit, am_lda_miss, am_ldl_hit, am_ldl_miss, am_inc_eq, am_inc_hit, am_inc_miss, am_ob_hit, am_fd_0, am_fd_s, am_ai_hit, am_ab_3, am_al_hit, am_aq_4, am_al0_hit, am_put_1, am_put_2, am_put_put, am_up_hit, am_up_miss, am_s1_eq, am_s2_eq, am_fl_nil, am_fl_hit, am_fl_int, am_fl_ref, am_fl_long, am_fl_longx, am_fl2_nil, am_fl2_hit, am_fl2_hit1, am_fl2_int, am_fl2_ref, am_fl2_long, List.not_mem_nil, not_false_eq_true, ne_eq, Nat.reduceAdd, Nat.reduceEqDiff, Nat.zero_add, Nat.add_left_cancel_iff, List.set_cons_zero, List.set_cons_succ, List.length_cons, List.length_nil, Nat.reduceLT, am_ft_i, am_ft_r, am_ft_z, and_true, true_and, Option.toList_some, Option.toList_none, List.cons_append, List.nil_append, List.drop_succ_cons, List.drop_zero, iI_c, iI_b, iI_s, iI_n, iI_add, iI_sub, iI_mul, iI_neg, iI_nle, iI_ix, iI_eq0, iI_eq1, iI_lt0, iI_0lt, iI_le0, iI_0le, iI_eq, iI_lt, iI_le, iI_upd, iI_updZ, hO, hA, e4, md_fs_len, md_f0, md_f1, md_f2, md_f3, md_f4, md_f5, md_f6, md_f7, md_f8, md_f9, md_f10, md_f11, md_f12, md_f13, md_f14, md_f15, md_f16, md_f17, md_f18, md_f19, md_f20, md_f21, md_f22, md_f23, md_f24, md_f25, md_f26, md_f27, md_f28, md_f29, md_f30, md_f31, md_f32, md_f33, md_f34, md_f35, md_s0, md_s1, md_s15, md_s16, md_s17, md_s23, md_s24, md_s31, md_t1, md_t2, md_t3, md_t4, md_t5, md_t6, md_t7, md_t8, md_t9, md_t10, md_t11, md_t12, md_t13, md_t14, md_t15, md_t16, md_t17, md_t18, md_t19, md_t20, md_t21, md_t22, md_t23, md_t24, md_t25, md_t26, md_t27, md_t28, md_l1, md_l2, md_l3, md_l4, md_l5, md_l6, md_l7, md_l8, md_l9, md_l10, md_l11, md_l12, md_l13, md_l14, md_l15, md_l16, md_l17, md_l18, md_l19, md_l20, md_l21, md_l22, md_l23, md_l24, md_l25, md_l26, md_l27, md_l28]
        unfold sp_asked
        (repeat' split) <;> first | rfl | (exfalso; omega)
      · have e3 := hr.2.1 (F 17 (F 10 (5 * b + k))) (by omega)
        refine am_go_of 60 [30] _ c_Md_asked_31 ?_
        simp (maxSteps := 2000000) (disch := omega) only [c_Md_asked_0, c_Md_asked_1, c_Md_asked_2, c_Md_asked_3, c_Md_asked_4, c_Md_asked_5, c_Md_asked_6, c_Md_asked_7, c_Md_asked_8, c_Md_asked_9, c_Md_asked_10, c_Md_asked_11, c_Md_asked_12, c_Md_asked_13, c_Md_asked_14, c_Md_asked_15, c_Md_asked_16, c_Md_asked_17, c_Md_asked_18, c_Md_asked_19, c_Md_asked_20, c_Md_asked_21, c_Md_asked_22, c_Md_asked_23, c_Md_asked_24, c_Md_asked_25, c_Md_asked_26, c_Md_asked_27, c_Md_asked_28, c_Md_asked_29, c_Md_asked_30, c_Md_asked_31, c_Md_asked_32, c_Md_asked_33, c_Md_asked_34, c_Md_asked_35, c_Md_asked_36, c_Md_asked_37, c_Md_asked_38, c_Md_asked_39, c_Md_asked_40, c_Md_asked_41, c_Md_asked_42, c_Md_asked_43, c_Md_asked_44, c_Md_asked_45, c_Md_asked_46, c_Md_asked_47, c_Md_asked_48, c_Md_asked_49, sx_aload_n, sx_bipush, sx_getfield, sx_iadd, sx_iaload, sx_iconst, sx_ifCond_eq, sx_if_icmp_eq, sx_if_icmp_le, sx_if_icmp_ne, sx_iload, sx_iload_n, sx_imul, sx_ireturn, sx_istore, sx_istore_n, sx_zreturn, am_W_s, am_W_0, am_mm_some, List.mem_cons, or_false, false_or, or_self, or_true, true_or, reduceIte, if_false, if_true, am_o_some, am_o_none, am_o_bad, am_o_good, am_ldi_hit, am_ldi_miss, am_lda_hit, am_lda_miss, am_ldl_hit, am_ldl_miss, am_inc_eq, am_inc_hit, am_inc_miss, am_ob_hit, am_fd_0, am_fd_s, am_ai_hit, am_ab_3, am_al_hit, am_aq_4, am_al0_hit, am_put_1, am_put_2, am_put_put, am_up_hit, am_up_miss, am_s1_eq, am_s2_eq, am_fl_nil, am_fl_hit, am_fl_int, am_fl_ref, am_fl_long, am_fl_longx, am_fl2_nil, am_fl2_hit, am_fl2_hit1, am_fl2_int, am_fl2_ref, am_fl2_long, List.not_mem_nil, not_false_eq_true, ne_eq, Nat.reduceAdd, Nat.reduceEqDiff, Nat.zero_add, Nat.add_left_cancel_iff, List.set_cons_zero, List.set_cons_succ, List.length_cons, List.length_nil, Nat.reduceLT, am_ft_i, am_ft_r, am_ft_z, and_true, true_and, Option.toList_some, Option.toList_none, List.cons_append, List.nil_append, List.drop_succ_cons, List.drop_zero, iI_c, iI_b, iI_s, iI_n, iI_add, iI_sub, iI_mul, iI_neg, iI_nle, iI_ix, iI_eq0, iI_eq1, iI_lt0, iI_0lt, iI_le0, iI_0le, iI_eq, iI_lt, iI_le, iI_upd, iI_updZ, hO, hA, e4, md_fs_len, md_f0, md_f1, md_f2, md_f3, md_f4, md_f5, md_f6, md_f7, md_f8, md_f9, md_f10, md_f11, md_f12, md_f13, md_f14, md_f15, md_f16, md_f17, md_f18, md_f19, md_f20, md_f21, md_f22, md_f23, md_f24, md_f25, md_f26, md_f27, md_f28, md_f29, md_f30, md_f31, md_f32, md_f33, md_f34, md_f35, md_s0, md_s1, md_s15, md_s16, md_s17, md_s23, md_s24, md_s31, md_t1, md_t2, md_t3, md_t4, md_t5, md_t6, md_t7, md_t8, md_t9, md_t10, md_t11, md_t12, md_t13, md_t14, md_t15, md_t16, md_t17, md_t18, md_t19, md_t20, md_t21, md_t22, md_t23, md_t24, md_t25, md_t26, md_t27, md_t28, md_l1, md_l2, md_l3, md_l4, md_l5, md_l6, md_l7, md_l8, md_l9, md_l10, md_l11, md_l12, md_l13, md_l14, md_l15, md_l16, md_l17, md_l18, md_l19, md_l20, md_l21, md_l22, md_l23, md_l24, md_l25, md_l26, md_l27, md_l28]
        repeat' (first | (refine And.intro (by omega) ?_) | split)
        all_goals (unfold sp_asked; (repeat' split) <;> first | rfl | (exfalso; omega))
  · unfold sp_asked
    (repeat' split) <;> first | rfl | (exfalso; omega)
