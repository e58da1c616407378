theorem mt_Md_makes : am_MT[129]? = some m_Md_makes := rfl
theorem c_Md_makes_0 : c_Md_makes[0]? = some (0, 1, .aload_n 0, 0, 0, 0, 0, 0, []) := Eq.trans rfl rfl
theorem c_Md_makes_1 : c_Md_makes[1]? = some (1, 1, .iload_n 1, 1, 0, 0, 0, 0, []) := Eq.trans rfl rfl
theorem c_Md_makes_2 : c_Md_makes[2]? = some (2, 3, .invokevirtual 192, 130, 2, 8, 0, 960, []) := Eq.trans rfl rfl
theorem c_Md_makes_3 : c_Md_makes[3]? = some (5, 1, .aload_n 0, 0, 0, 0, 0, 0, []) := Eq.trans rfl rfl
theorem c_Md_makes_4 : c_Md_makes[4]? = some (6, 1, .dup, 0, 0, 0, 0, 0, []) := Eq.trans rfl rfl
theorem c_Md_makes_5 : c_Md_makes[5]? = some (7, 3, .getfield 114, 8, 15, 0, 0, 772, []) := Eq.trans rfl rfl
theorem c_Md_makes_6 : c_Md_makes[6]? = some (10, 1, .iconst 1, 0, 0, 0, 0, 0, []) := Eq.trans rfl rfl
theorem c_Md_makes_7 : c_Md_makes[7]? = some (11, 1, .iadd, 0, 0, 0, 0, 0, []) := Eq.trans rfl rfl
theorem c_Md_makes_8 : c_Md_makes[8]? = some (12, 3, .putfield 114, 8, 15, 0, 0, 772, []) := Eq.trans rfl rfl
theorem c_Md_makes_9 : c_Md_makes[9]? = some (15, 1, .aload_n 0, 0, 0, 0, 0, 0, []) := Eq.trans rfl rfl
theorem c_Md_makes_10 : c_Md_makes[10]? = some (16, 1, .iconst 0, 0, 0, 0, 0, 0, []) := Eq.trans rfl rfl
theorem c_Md_makes_11 : c_Md_makes[11]? = some (17, 3, .putfield 120, 8, 23, 0, 3, 780, []) := Eq.trans rfl rfl
theorem c_Md_makes_12 : c_Md_makes[12]? = some (20, 1, .return_, 0, 0, 0, 0, 0, []) := Eq.trans rfl rfl
theorem mt_Md_first : am_MT[105]? = some m_Md_first := rfl
theorem c_Md_first_0 : c_Md_first[0]? = some (0, 1, .iconst 0, 0, 0, 0, 0, 0, []) := Eq.trans rfl rfl
theorem c_Md_first_1 : c_Md_first[1]? = some (1, 1, .istore_n 1, 1, 0, 0, 0, 0, []) := Eq.trans rfl rfl
theorem c_Md_first_2 : c_Md_first[2]? = some (2, 1, .iload_n 1, 1, 0, 0, 0, 0, []) := Eq.trans rfl rfl
theorem c_Md_first_3 : c_Md_first[3]? = some (3, 2, .bipush 66, 0, 0, 0, 0, 0, []) := Eq.trans rfl rfl
theorem c_Md_first_4 : c_Md_first[4]? = some (5, 3, .if_icmp .ge 16, 12, 0, 0, 0, 0, []) := Eq.trans rfl rfl
theorem c_Md_first_5 : c_Md_first[5]? = some (8, 1, .aload_n 0, 0, 0, 0, 0, 0, []) := Eq.trans rfl rfl
theorem c_Md_first_6 : c_Md_first[6]? = some (9, 3, .getfield 47, 8, 14, 0, 0, 771, []) := Eq.trans rfl rfl
theorem c_Md_first_7 : c_Md_first[7]? = some (12, 1, .iload_n 1, 1, 0, 0, 0, 0, []) := Eq.trans rfl rfl
theorem c_Md_first_8 : c_Md_first[8]? = some (13, 1, .iconst 0, 0, 0, 0, 0, 0, []) := Eq.trans rfl rfl
theorem c_Md_first_9 : c_Md_first[9]? = some (14, 1, .iastore, 0, 0, 0, 0, 0, []) := Eq.trans rfl rfl
theorem c_Md_first_10 : c_Md_first[10]? = some (15, 3, .iinc 1 1, 0, 0, 0, 0, 0, []) := Eq.trans rfl rfl
theorem c_Md_first_11 : c_Md_first[11]? = some (18, 3, .goto (-16), 2, 0, 0, 0, 0, []) := Eq.trans rfl rfl
theorem c_Md_first_12 : c_Md_first[12]? = some (21, 1, .iconst 0, 0, 0, 0, 0, 0, []) := Eq.trans rfl rfl
theorem c_Md_first_13 : c_Md_first[13]? = some (22, 1, .istore_n 1, 1, 0, 0, 0, 0, []) := Eq.trans rfl rfl
theorem c_Md_first_14 : c_Md_first[14]? = some (23, 1, .iload_n 1, 1, 0, 0, 0, 0, []) := Eq.trans rfl rfl
theorem c_Md_first_15 : c_Md_first[15]? = some (24, 2, .bipush 6, 0, 0, 0, 0, 0, []) := Eq.trans rfl rfl
theorem c_Md_first_16 : c_Md_first[16]? = some (26, 3, .if_icmp .ge 19, 26, 0, 0, 0, 0, []) := Eq.trans rfl rfl
theorem c_Md_first_17 : c_Md_first[17]? = some (29, 1, .aload_n 0, 0, 0, 0, 0, 0, []) := Eq.trans rfl rfl
theorem c_Md_first_18 : c_Md_first[18]? = some (30, 3, .getfield 47, 8, 14, 0, 0, 771, []) := Eq.trans rfl rfl
theorem c_Md_first_19 : c_Md_first[19]? = some (33, 2, .bipush 6, 0, 0, 0, 0, 0, []) := Eq.trans rfl rfl
theorem c_Md_first_20 : c_Md_first[20]? = some (35, 1, .iload_n 1, 1, 0, 0, 0, 0, []) := Eq.trans rfl rfl
theorem c_Md_first_21 : c_Md_first[21]? = some (36, 1, .iadd, 0, 0, 0, 0, 0, []) := Eq.trans rfl rfl
theorem c_Md_first_22 : c_Md_first[22]? = some (37, 1, .iconst (-1), 0, 0, 0, 0, 0, []) := Eq.trans rfl rfl
theorem c_Md_first_23 : c_Md_first[23]? = some (38, 1, .iastore, 0, 0, 0, 0, 0, []) := Eq.trans rfl rfl
theorem c_Md_first_24 : c_Md_first[24]? = some (39, 3, .iinc 1 1, 0, 0, 0, 0, 0, []) := Eq.trans rfl rfl
theorem c_Md_first_25 : c_Md_first[25]? = some (42, 3, .goto (-19), 14, 0, 0, 0, 0, []) := Eq.trans rfl rfl
theorem c_Md_first_26 : c_Md_first[26]? = some (45, 1, .aload_n 0, 0, 0, 0, 0, 0, []) := Eq.trans rfl rfl
theorem c_Md_first_27 : c_Md_first[27]? = some (46, 1, .iconst 0, 0, 0, 0, 0, 0, []) := Eq.trans rfl rfl
theorem c_Md_first_28 : c_Md_first[28]? = some (47, 3, .putfield 114, 8, 15, 0, 0, 772, []) := Eq.trans rfl rfl
theorem c_Md_first_29 : c_Md_first[29]? = some (50, 1, .aload_n 0, 0, 0, 0, 0, 0, []) := Eq.trans rfl rfl
theorem c_Md_first_30 : c_Md_first[30]? = some (51, 1, .iconst 0, 0, 0, 0, 0, 0, []) := Eq.trans rfl rfl
theorem c_Md_first_31 : c_Md_first[31]? = some (52, 3, .putfield 117, 8, 17, 0, 0, 774, []) := Eq.trans rfl rfl
theorem c_Md_first_32 : c_Md_first[32]? = some (55, 1, .aload_n 0, 0, 0, 0, 0, 0, []) := Eq.trans rfl rfl
theorem c_Md_first_33 : c_Md_first[33]? = some (56, 1, .iconst 0, 0, 0, 0, 0, 0, []) := Eq.trans rfl rfl
theorem c_Md_first_34 : c_Md_first[34]? = some (57, 3, .putfield 120, 8, 23, 0, 3, 780, []) := Eq.trans rfl rfl
theorem c_Md_first_35 : c_Md_first[35]? = some (60, 1, .return_, 0, 0, 0, 0, 0, []) := Eq.trans rfl rfl
def mk_I (I : Nat → Int) : Nat → Int := va_up (va_up I 2 (I 2 + 1)) 5 0
theorem ct_makes (d : Nat) (hd : 4 ≤ d) (h : am_H) (o : Nat) (I : Nat → Int) (F : Nat → Int → Int) (r : rn) (H : md_at h o I F) (h13 : F 13 = vec r) (hr : md_rg I F) (hw : md_wf I F) (hv : rn_iv I F r) (hl : lg_ok I r) (th : Int) (hth : 0 ≤ th ∧ th < I 1) (hen : r_en r th = 0) : am_Ct am_df am_MT (d + 2) 129 [.ref o, .int (iI th)] h (fun r0 h' => r0 = none ∧ md_to h o (mk_I (sp_LI (sq_steps F r th).2 I)) (sp_LF (sq_steps F r th).2 I (va_up F 13 (vec (sq_steps F r th).1))) h') := by
  have H' := H
  obtain ⟨h00, hO, hA⟩ := H'
  refine am_ct_of2 mt_Md_makes (Nat.le_of_ble_eq_true rfl) ?_
  simp only [ar_nil, ar_int, ar_ref, ar_long, Nat.reduceAdd]
  refine am_go_of 10 [2] _ c_Md_makes_0 ?_
  simp (maxSteps := 2000000) (disch := omega) only [c_Md_makes_0, c_Md_makes_1, c_Md_makes_2, c_Md_makes_3, c_Md_makes_4, c_Md_makes_5, c_Md_makes_6, c_Md_makes_7, c_Md_makes_8, c_Md_makes_9, c_Md_makes_10, c_Md_makes_11, c_Md_makes_12, sx_aload_n, sx_dup_i, sx_dup_r, sx_getfield, sx_iadd, sx_iconst, sx_iload_n, sx_putfield, sx_return, am_W_s, am_W_0, am_mm_some, List.mem_cons, or_false, false_or, or_self, or_true, true_or, reduceIte, if_false, if_true, am_o_some, am_o_none, am_o_bad, am_o_good, am_ldi_hit, am_ldi_miss, am_lda_hit, am_lda_miss, am_ldl_hit, am_ldl_miss, am_inc_eq, am_inc_hit, am_inc_miss, am_ob_hit, am_fd_0, am_fd_s, am_ai_hit, am_ab_3, am_al_hit, am_aq_4, am_al0_hit, am_put_1, am_put_2, am_put_put, am_up_hit, am_up_miss, am_s1_eq, am_s2_eq, am_fl_nil, am_fl_hit, am_fl_int, am_fl_ref, am_fl_long, am_fl_longx, am_fl2_nil, am_fl2_hit, am_fl2_hit1, am_fl2_int, am_fl2_ref, am_fl2_long, List.not_mem_nil, not_false_eq_true, ne_eq, Nat.reduceAdd, Nat.reduceEqDiff, Nat.zero_add, Nat.add_left_cancel_iff, List.set_cons_zero, List.set_cons_succ, List.length_cons, List.length_nil, Nat.reduceLT, am_ft_i, am_ft_r, am_ft_z, and_true, true_and, Option.toList_some, Option.toList_none, List.cons_append, List.nil_append, List.drop_succ_cons, List.drop_zero, iI_c, iI_b, iI_s, iI_n, iI_add, iI_sub, iI_mul, iI_neg, iI_nle, iI_ix, iI_eq0, iI_eq1, iI_lt0, iI_0lt, iI_le0, iI_0le, iI_eq, iI_lt, iI_le, iI_upd, iI_updZ, hO, md_fs_len, md_f0, md_f1, md_f2, md_f3, md_f4, md_f5, md_f6, md_f7, md_f8, md_f9, md_f10, md_f11, md_f12, md_f13, md_f14, md_f15, md_f16, md_f17, md_f18, md_f19, md_f20, md_f21, md_f22, md_f23, md_f24, md_f25, md_f26, md_f27, md_f28, md_f29, md_f30, md_f31, md_f32, md_f33, md_f34, md_f35, md_s0, md_s1, md_s15, md_s16, md_s17, md_s23, md_s24, md_s31, md_t1, md_t2, md_t3, md_t4, md_t5, md_t6, md_t7, md_t8, md_t9, md_t10, md_t11, md_t12, md_t13, md_t14, md_t15, md_t16, md_t17, md_t18, md_t19, md_t20, md_t21, md_t22, md_t23, md_t24, md_t25, md_t26, md_t27, md_t28, md_l1, md_l2, md_l3, md_l4, md_l5, md_l6, md_l7, md_l8, md_l9, md_l10, md_l11, md_l12, md_l13, md_l14, md_l15, md_l16, md_l17, md_l18, md_l19, md_l20, md_l21, md_l22, md_l23, md_l24, md_l25, md_l26, md_l27, md_l28]
  refine am_go_call c_Md_makes_2 (by decide) (by decide) (by simp [am_can, am_kd, Value.category, hO]) ?_
  refine (ct_stepsI d hd h o I F r H h13 hr hw hv hl th hth hen).mono (fun r9 h1 hr9 => ?_)
  obtain ⟨rfl, w⟩ := hr9
  have H1 := w.1
  obtain ⟨h10, hO1, hA1⟩ := H1
  refine am_go_of 20 [2] _ c_Md_makes_3 ?_
  simp (maxSteps := 2000000) (disch := omega) only [c_Md_makes_0, c_Md_makes_1, c_Md_makes_2, c_Md_makes_3, c_Md_makes_4, c_Md_makes_5, c_Md_makes_6, c_Md_makes_7, c_Md_makes_8, c_Md_makes_9, c_Md_makes_10, c_Md_makes_11, c_Md_makes_12, sx_aload_n, sx_dup_i, sx_dup_r, sx_getfield, sx_iadd, sx_iconst, sx_iload_n, sx_putfield, sx_return, am_W_s, am_W_0, am_mm_some, List.mem_cons, or_false, false_or, or_self, or_true, true_or, reduceIte, if_false, if_true, am_o_some, am_o_none, am_o_bad, am_o_good, am_ldi_hit, am_ldi_miss, am_lda_hit, am_lda_miss, am_ldl_hit, am_ldl_miss, am_inc_eq, am_inc_hit, am_inc_miss, am_ob_hit, am_fd_0, am_fd_s, am_ai_hit, am_ab_3, am_al_hit, am_aq_4, am_al0_hit, am_put_1, am_put_2, am_put_put, am_up_hit, am_up_miss, am_s1_eq, am_s2_eq, am_fl_nil, am_fl_hit, am_fl_int, am_fl_ref, am_fl_long, am_fl_longx, am_fl2_nil, am_fl2_hit, am_fl2_hit1, am_fl2_int, am_fl2_ref, am_fl2_long, List.not_mem_nil, not_false_eq_true, ne_eq, Nat.reduceAdd, Nat.reduceEqDiff, Nat.zero_add, Nat.add_left_cancel_iff, List.set_cons_zero, List.set_cons_succ, List.length_cons, List.length_nil, Nat.reduceLT, am_ft_i, am_ft_r, am_ft_z, and_true, true_and, Option.toList_some, Option.toList_none, List.cons_append, List.nil_append, List.drop_succ_cons, List.drop_zero, iI_c, iI_b, iI_s, iI_n, iI_add, iI_sub, iI_mul, iI_neg, iI_nle, iI_ix, iI_eq0, iI_eq1, iI_lt0, iI_0lt, iI_le0, iI_0le, iI_eq, iI_lt, iI_le, iI_upd, iI_updZ, hO1, md_fs_len, md_f0, md_f1, md_f2, md_f3, md_f4, md_f5, md_f6, md_f7, md_f8, md_f9, md_f10, md_f11, md_f12, md_f13, md_f14, md_f15, md_f16, md_f17, md_f18, md_f19, md_f20, md_f21, md_f22, md_f23, md_f24, md_f25, md_f26, md_f27, md_f28, md_f29, md_f30, md_f31, md_f32, md_f33, md_f34, md_f35, md_s0, md_s1, md_s15, md_s16, md_s17, md_s23, md_s24, md_s31, md_t1, md_t2, md_t3, md_t4, md_t5, md_t6, md_t7, md_t8, md_t9, md_t10, md_t11, md_t12, md_t13, md_t14, md_t15, md_t16, md_t17, md_t18, md_t19, md_t20, md_t21, md_t22, md_t23, md_t24, md_t25, md_t26, md_t27, md_t28, md_l1, md_l2, md_l3, md_l4, md_l5, md_l6, md_l7, md_l8, md_l9, md_l10, md_l11, md_l12, md_l13, md_l14, md_l15, md_l16, md_l17, md_l18, md_l19, md_l20, md_l21, md_l22, md_l23, md_l24, md_l25, md_l26, md_l27, md_l28]
  repeat (refine And.intro (by omega) ?_)
  exact w.num
def ff (g : Int → Int) (i : Int) : Int → Int := fun k => if 6 ≤ k ∧ k < 12 then -1 else if i ≤ k ∧ k < 66 then 0 else g k
def fb (g : Int → Int) (j : Int) : Int → Int := fun k => if 6 + j ≤ k ∧ k < 12 then -1 else g k
theorem ff_s {g : Int → Int} {i : Int} (h : 0 ≤ i ∧ i < 66) : ff (vI g i 0) (i + 1) = ff g i := by
  funext k
  unfold ff vI
  by_cases c : 6 ≤ k ∧ k < 12
  · rw [if_pos c, if_pos c]
  · rw [if_neg c, if_neg c]
    by_cases c1 : k = i
    · rw [if_neg (by omega), if_pos c1, if_pos (by omega)]
    · by_cases c2 : i ≤ k ∧ k < 66
      · rw [if_pos (by omega), if_pos c2]
      · rw [if_neg (by omega), if_neg c1, if_neg c2]
theorem ff_e {g : Int → Int} : ff g 66 = fb g 0 := by
  funext k
  unfold ff fb
  by_cases c : 6 ≤ k ∧ k < 12
  · rw [if_pos c, if_pos (by omega)]
  · rw [if_neg c, if_neg (by omega), if_neg (by omega)]
theorem fb_s {g : Int → Int} {j : Int} (h : 0 ≤ j ∧ j < 6) : fb (vI g (6 + j) (-1)) (j + 1) = fb g j := by
  funext k
  unfold fb vI
  by_cases c1 : k = 6 + j
  · rw [if_neg (by omega), if_pos c1, if_pos (by omega)]
  · by_cases c2 : 6 + j ≤ k ∧ k < 12
    · rw [if_pos (by omega), if_pos c2]
    · rw [if_neg (by omega), if_neg c1, if_neg c2]
theorem fb_e {g : Int → Int} : fb g 6 = g := by
  funext k
  unfold fb
  rw [if_neg (by omega)]
def fs_I (I : Nat → Int) : Nat → Int := va_up (va_up (va_up I 2 0) 4 0) 5 0
theorem lp_first2 (d : Nat) (o : Nat) (I : Nat → Int) : ∀ (n : Nat) (j : Int) (h : am_H) (F : Nat → Int → Int), md_at h o I F → 0 ≤ j → j + n = 6 → am_Go am_df am_MT d c_Md_first (14, [(1, .int (iI j)), (0, .ref o)], [], h) (fun r0 h' => r0 = none ∧ md_to h o (fs_I I) (va_up F 13 (fb (F 13) j)) h') := by
  intro n
  induction n with
  | zero =>
    intro j h F H h1 h2
    have H' := H
    obtain ⟨h00, hO, hA⟩ := H'
    have c : j = 6 := by omega
    rw [c, fb_e, va_up_same rfl]
    refine am_go_of 30 [2, 14] _ c_Md_first_14 ?_
    simp (maxSteps := 2000000) (disch := omega) only [c_Md_first_0, c_Md_first_1, c_Md_first_2, c_Md_first_3, c_Md_first_4, c_Md_first_5, c_Md_first_6, c_Md_first_7, c_Md_first_8, c_Md_first_9, c_Md_first_10, c_Md_first_11, c_Md_first_12, c_Md_first_13, c_Md_first_14, c_Md_first_15, c_Md_first_16, c_Md_first_17, c_Md_first_18, c_Md_first_19, c_Md_first_20, c_Md_first_21, c_Md_first_22, c_Md_first_23, c_Md_first_24, c_Md_first_25, c_Md_first_26, c_Md_first_27, c_Md_first_28, c_Md_first_29, c_Md_first_30, c_Md_first_31, c_Md_first_32, c_Md_first_33, c_Md_first_34, c_Md_first_35, sx_aload_n, sx_bipush, sx_getfield, sx_goto, sx_iadd, sx_iastore, sx_iconst, sx_if_icmp_ge, sx_iinc, sx_iload_n, sx_istore_n, sx_putfield, sx_return, am_W_s, am_W_0, am_mm_some, List.mem_cons, or_false, false_or, or_self, or_true, true_or, reduceIte, if_false, if_true, am_o_some, am_o_none, am_o_bad, am_o_good, am_ldi_hit, am_ldi_miss, am_lda_hit, am_lda_miss, am_ldl_hit, am_ldl_miss, am_inc_eq, am_inc_hit, am_inc_miss, am_ob_hit, am_fd_0, am_fd_s, am_ai_hit, am_ab_3, am_al_hit, am_aq_4, am_al0_hit, am_put_1, am_put_2, am_put_put, am_up_hit, am_up_miss, am_s1_eq, am_s2_eq, am_fl_nil, am_fl_hit, am_fl_int, am_fl_ref, am_fl_long, am_fl_longx, am_fl2_nil, am_fl2_hit, am_fl2_hit1, am_fl2_int, am_fl2_ref, am_fl2_long, List.not_mem_nil, not_false_eq_true, ne_eq, Nat.reduceAdd, Nat.reduceEqDiff, Nat.zero_add, Nat.add_left_cancel_iff, List.set_cons_zero, List.set_cons_succ, List.length_cons, List.length_nil, Nat.reduceLT, am_ft_i, am_ft_r, am_ft_z, and_true, true_and, Option.toList_some, Option.toList_none, List.cons_append, List.nil_append, List.drop_succ_cons, List.drop_zero, iI_c, iI_b, iI_s, iI_n, iI_add, iI_sub, iI_mul, iI_neg, iI_nle, iI_ix, iI_eq0, iI_eq1, iI_lt0, iI_0lt, iI_le0, iI_0le, iI_eq, iI_lt, iI_le, iI_upd, iI_updZ, hO, Int.le_refl, md_fs_len, md_f0, md_f1, md_f2, md_f3, md_f4, md_f5, md_f6, md_f7, md_f8, md_f9, md_f10, md_f11, md_f12, md_f13, md_f14, md_f15, md_f16, md_f17, md_f18, md_f19, md_f20, md_f21, md_f22, md_f23, md_f24, md_f25, md_f26, md_f27, md_f28, md_f29, md_f30, md_f31, md_f32, md_f33, md_f34, md_f35, md_s0, md_s1, md_s15, md_s16, md_s17, md_s23, md_s24, md_s31, md_t1, md_t2, md_t3, md_t4, md_t5, md_t6, md_t7, md_t8, md_t9, md_t10, md_t11, md_t12, md_t13, md_t14, md_t15, md_t16, md_t17, md_t18, md_t19, md_t20, md_t21, md_t22, md_t23, md_t24, md_t25, md_t26, md_t27, md_t28, md_l1, md_l2, md_l3, md_l4, md_l5, md_l6, md_l7, md_l8, md_l9, md_l10, md_l11, md_l12, md_l13, md_l14, md_l15, md_l16, md_l17, md_l18, md_l19, md_l20, md_l21, md_l22, md_l23, md_l24, md_l25, md_l26, md_l27, md_l28]
    repeat (refine And.intro (by omega) ?_)
    exact H.rf.num
  | succ n ih =>
    intro j h F H h1 h2
    have H' := H
    obtain ⟨h00, hO, hA⟩ := H'
    have c : ¬ 6 ≤ j := by omega
    have w := H.rf.row (k := 13) (t := 0) (n := 66) (g := vI (F 13) (6 + j) (-1)) ⟨by decide, by decide⟩ rfl rfl
    have g := ih (j + 1) _ _ w.1 (by omega) (by omega)
    rw [va_up_hit, fb_s ⟨h1, by omega⟩, va_up_up] at g
    refine am_go_of 30 [2, 14] _ c_Md_first_14 ?_
    simp (maxSteps := 2000000) (disch := omega) only [c_Md_first_0, c_Md_first_1, c_Md_first_2, c_Md_first_3, c_Md_first_4, c_Md_first_5, c_Md_first_6, c_Md_first_7, c_Md_first_8, c_Md_first_9, c_Md_first_10, c_Md_first_11, c_Md_first_12, c_Md_first_13, c_Md_first_14, c_Md_first_15, c_Md_first_16, c_Md_first_17, c_Md_first_18, c_Md_first_19, c_Md_first_20, c_Md_first_21, c_Md_first_22, c_Md_first_23, c_Md_first_24, c_Md_first_25, c_Md_first_26, c_Md_first_27, c_Md_first_28, c_Md_first_29, c_Md_first_30, c_Md_first_31, c_Md_first_32, c_Md_first_33, c_Md_first_34, c_Md_first_35, sx_aload_n, sx_bipush, sx_getfield, sx_goto, sx_iadd, sx_iastore, sx_iconst, sx_if_icmp_ge, sx_iinc, sx_iload_n, sx_istore_n, sx_putfield, sx_return, am_W_s, am_W_0, am_mm_some, List.mem_cons, or_false, false_or, or_self, or_true, true_or, reduceIte, if_false, if_true, am_o_some, am_o_none, am_o_bad, am_o_good, am_ldi_hit, am_ldi_miss, am_lda_hit, am_lda_miss, am_ldl_hit, am_ldl_miss, am_inc_eq, am_inc_hit, am_inc_miss, am_ob_hit, am_fd_0, am_fd_s, am_ai_hit, am_ab_3, am_al_hit, am_aq_4, am_al0_hit, am_put_1, am_put_2, am_put_put, am_up_hit, am_up_miss, am_s1_eq, am_s2_eq, am_fl_nil, am_fl_hit, am_fl_int, am_fl_ref, am_fl_long, am_fl_longx, am_fl2_nil, am_fl2_hit, am_fl2_hit1, am_fl2_int, am_fl2_ref, am_fl2_long, List.not_mem_nil, not_false_eq_true, ne_eq, Nat.reduceAdd, Nat.reduceEqDiff, Nat.zero_add, Nat.add_left_cancel_iff, List.set_cons_zero, List.set_cons_succ, List.length_cons, List.length_nil, Nat.reduceLT, am_ft_i, am_ft_r, am_ft_z, and_true, true_and, Option.toList_some, Option.toList_none, List.cons_append, List.nil_append, List.drop_succ_cons, List.drop_zero, iI_c, iI_b, iI_s, iI_n, iI_add, iI_sub, iI_mul, iI_neg, iI_nle, iI_ix, iI_eq0, iI_eq1, iI_lt0, iI_0lt, iI_le0, iI_0le, iI_eq, iI_lt, iI_le, iI_upd, iI_updZ, hO, hA, c, md_fs_len, md_f0, md_f1, md_f2, md_f3, md_f4, md_f5, md_f6, md_f7, md_f8, md_f9, md_f10, md_f11, md_f12, md_f13, md_f14, md_f15, md_f16, md_f17, md_f18, md_f19, md_f20, md_f21, md_f22, md_f23, md_f24, md_f25, md_f26, md_f27, md_f28, md_f29, md_f30, md_f31, md_f32, md_f33, md_f34, md_f35, md_s0, md_s1, md_s15, md_s16, md_s17, md_s23, md_s24, md_s31, md_t1, md_t2, md_t3, md_t4, md_t5, md_t6, md_t7, md_t8, md_t9, md_t10, md_t11, md_t12, md_t13, md_t14, md_t15, md_t16, md_t17, md_t18, md_t19, md_t20, md_t21, md_t22, md_t23, md_t24, md_t25, md_t26, md_t27, md_t28, md_l1, md_l2, md_l3, md_l4, md_l5, md_l6, md_l7, md_l8, md_l9, md_l10, md_l11, md_l12, md_l13, md_l14, md_l15, md_l16, md_l17, md_l18, md_l19, md_l20, md_l21, md_l22, md_l23, md_l24, md_l25, md_l26, md_l27, md_l28]
    repeat (refine And.intro (by omega) ?_)
    exact (g.mono (fun r0 h2 q => ⟨q.1, w.tr q.2⟩)).lo (al_le_of (by simp) (by simp))
theorem lp_first1 (d : Nat) (o : Nat) (I : Nat → Int) : ∀ (n : Nat) (i : Int) (h : am_H) (F : Nat → Int → Int), md_at h o I F → 0 ≤ i → i + n = 66 → am_Go am_df am_MT d c_Md_first (2, [(1, .int (iI i)), (0, .ref o)], [], h) (fun r0 h' => r0 = none ∧ md_to h o (fs_I I) (va_up F 13 (ff (F 13) i)) h') := by
  intro n
  induction n with
  | zero =>
    intro i h F H h1 h2
    have H' := H
    obtain ⟨h00, hO, hA⟩ := H'
    have c : i = 66 := by omega
    rw [c, ff_e]
    refine am_go_of 30 [2, 14] _ c_Md_first_2 ?_
    simp (maxSteps := 2000000) (disch := omega) only [c_Md_first_0, c_Md_first_1, c_Md_first_2, c_Md_first_3, c_Md_first_4, c_Md_first_5, c_Md_first_6, c_Md_first_7, c_Md_first_8, c_Md_first_9, c_Md_first_10, c_Md_first_11, c_Md_first_12, c_Md_first_13, c_Md_first_14, c_Md_first_15, c_Md_first_16, c_Md_first_17, c_Md_first_18, c_Md_first_19, c_Md_first_20, c_Md_first_21, c_Md_first_22, c_Md_first_23, c_Md_first_24, c_Md_first_25, c_Md_first_26, c_Md_first_27, c_Md_first_28, c_Md_first_29, c_Md_first_30, c_Md_first_31, c_Md_first_32, c_Md_first_33, c_Md_first_34, c_Md_first_35, sx_aload_n, sx_bipush, sx_getfield, sx_goto, sx_iadd, sx_iastore, sx_iconst, sx_if_icmp_ge, sx_iinc, sx_iload_n, sx_istore_n, sx_putfield, sx_return, am_W_s, am_W_0, am_mm_some, List.mem_cons, or_false, false_or, or_self, or_true, true_or, reduceIte, if_false, if_true, am_o_some, am_o_none, am_o_bad, am_o_good, am_ldi_hit, am_ldi_miss, am_lda_hit, am_lda_miss, am_ldl_hit, am_ldl_miss, am_inc_eq, am_inc_hit, am_inc_miss, am_ob_hit, am_fd_0, am_fd_s, am_ai_hit, am_ab_3, am_al_hit, am_aq_4, am_al0_hit, am_put_1, am_put_2, am_put_put, am_up_hit, am_up_miss, am_s1_eq, am_s2_eq, am_fl_nil, am_fl_hit, am_fl_int, am_fl_ref, am_fl_long, am_fl_longx, am_fl2_nil, am_fl2_hit, am_fl2_hit1, am_fl2_int, am_fl2_ref, am_fl2_long, List.not_mem_nil, not_false_eq_true, ne_eq, Nat.reduceAdd, Nat.reduceEqDiff, Nat.zero_add, Nat.add_left_cancel_iff, List.set_cons_zero, List.set_cons_succ, List.length_cons, List.length_nil, Nat.reduceLT, am_ft_i, am_ft_r, am_ft_z, and_true, true_and, Option.toList_some, Option.toList_none, List.cons_append, List.nil_append, List.drop_succ_cons, List.drop_zero, iI_c, iI_b, iI_s, iI_n, iI_add, iI_sub, iI_mul, iI_neg, iI_nle, iI_ix, iI_eq0, iI_eq1, iI_lt0, iI_0lt, iI_le0, iI_0le, iI_eq, iI_lt, iI_le, iI_upd, iI_updZ, hO, Int.le_refl, md_fs_len, md_f0, md_f1, md_f2, md_f3, md_f4, md_f5, md_f6, md_f7, md_f8, md_f9, md_f10, md_f11, md_f12, md_f13, md_f14, md_f15, md_f16, md_f17, md_f18, md_f19, md_f20, md_f21, md_f22, md_f23, md_f24, md_f25, md_f26, md_f27, md_f28, md_f29, md_f30, md_f31, md_f32, md_f33, md_f34, md_f35, md_s0, md_s1, md_s15, md_s16, md_s17, md_s23, md_s24, md_s31, md_t1, md_t2, md_t3, md_t4, md_t5, md_t6, md_t7, md_t8, md_t9, md_t10, md_t11, md_t12, md_t13, md_t14, md_t15, md_t16, md_t17, md_t18, md_t19, md_t20, md_t21, md_t22, md_t23, md_t24, md_t25, md_t26, md_t27, md_t28, md_l1, md_l2, md_l3, md_l4, md_l5, md_l6, md_l7, md_l8, md_l9, md_l10, md_l11, md_l12, md_l13, md_l14, md_l15, md_l16, md_l17, md_l18, md_l19, md_l20, md_l21, md_l22, md_l23, md_l24, md_l25, md_l26, md_l27, md_l28]
    exact (lp_first2 d o I 6 0 h F H (by decide) (by decide)).lo (al_le_of (by simp) (by simp))
  | succ n ih =>
    intro i h F H h1 h2
    have H' := H
    obtain ⟨h00, hO, hA⟩ := H'
    have c : ¬ 66 ≤ i := by omega
    have w := H.rf.row (k := 13) (t := 0) (n := 66) (g := vI (F 13) i 0) ⟨by decide, by decide⟩ rfl rfl
    have g := ih (i + 1) _ _ w.1 (by omega) (by omega)
    rw [va_up_hit, ff_s ⟨h1, by omega⟩, va_up_up] at g
    refine am_go_of 30 [2, 14] _ c_Md_first_2 ?_
    simp (maxSteps := 2000000) (disch := omega) only [c_Md_first_0, c_Md_first_1, c_Md_first_2, c_Md_first_3, c_Md_first_4, c_Md_first_5, c_Md_first_6, c_Md_first_7, c_Md_first_8, c_Md_first_9, c_Md_first_10, c_Md_first_11, c_Md_first_12, c_Md_first_13, c_Md_first_14, c_Md_first_15, c_Md_first_16, c_Md_first_17, c_Md_first_18, c_Md_first_19, c_Md_first_20, c_Md_first_21, c_Md_first_22, c_Md_first_23, c_Md_first_24, c_Md_first_25, c_Md_first_26, c_Md_first_27, c_Md_first_28, c_Md_first_29, c_Md_first_30, c_Md_first_31, c_Md_first_32, c_Md_first_33, c_Md_first_34, c_Md_first_35, sx_aload_n, sx_bipush, sx_getfield, sx_goto, sx_iadd, sx_iastore, sx_iconst, sx_if_icmp_ge, sx_iinc, sx_iload_n, sx_istore_n, sx_putfield, sx_return, am_W_s, am_W_0, am_mm_some, List.mem_cons, or_false, false_or, or_self, or_true, true_or, reduceIte, if_false, if_true, am_o_some, am_o_none, am_o_bad, am_o_good, am_ldi_hit, am_ldi_miss, am_lda_hit, am_lda_miss, am_ldl_hit, am_ldl_miss, am_inc_eq, am_inc_hit, am_inc_miss, am_ob_hit, am_fd_0, am_fd_s, am_ai_hit, am_ab_3, am_al_hit, am_aq_4, am_al0_hit, am_put_1, am_put_2, am_put_put, am_up_hit, am_up_miss, am_s1_eq, am_s2_eq, am_fl_nil, am_fl_hit, am_fl_int, am_fl_ref, am_fl_long, am_fl_longx, am_fl2_nil, am_fl2_hit, am_fl2_hit1, am_fl2_int, am_fl2_ref, am_fl2_long, List.not_mem_nil, not_false_eq_true, ne_eq, Nat.reduceAdd, Nat.reduceEqDiff, Nat.zero_add, Nat.add_left_cancel_iff, List.set_cons_zero, List.set_cons_succ, List.length_cons, List.length_nil, Nat.reduceLT, am_ft_i, am_ft_r, am_ft_z, and_true, true_and, Option.toList_some, Option.toList_none, List.cons_append, List.nil_append, List.drop_succ_cons, List.drop_zero, iI_c, iI_b, iI_s, iI_n, iI_add, iI_sub, iI_mul, iI_neg, iI_nle, iI_ix, iI_eq0, iI_eq1, iI_lt0, iI_0lt, iI_le0, iI_0le, iI_eq, iI_lt, iI_le, iI_upd, iI_updZ, hO, hA, c, md_fs_len, md_f0, md_f1, md_f2, md_f3, md_f4, md_f5, md_f6, md_f7, md_f8, md_f9, md_f10, md_f11, md_f12, md_f13, md_f14, md_f15, md_f16, md_f17, md_f18, md_f19, md_f20, md_f21, md_f22, md_f23, md_f24, md_f25, md_f26, md_f27, md_f28, md_f29, md_f30, md_f31, md_f32, md_f33, md_f34, md_f35, md_s0, md_s1, md_s15, md_s16, md_s17, md_s23, md_s24, md_s31, md_t1, md_t2, md_t3, md_t4, md_t5, md_t6, md_t7, md_t8, md_t9, md_t10, md_t11, md_t12, md_t13, md_t14, md_t15, md_t16, md_t17, md_t18, md_t19, md_t20, md_t21, md_t22, md_t23, md_t24, md_t25, md_t26, md_t27, md_t28, md_l1, md_l2, md_l3, md_l4, md_l5, md_l6, md_l7, md_l8, md_l9, md_l10, md_l11, md_l12, md_l13, md_l14, md_l15, md_l16, md_l17, md_l18, md_l19, md_l20, md_l21, md_l22, md_l23, md_l24, md_l25, md_l26, md_l27, md_l28]
    repeat (refine And.intro (by omega) ?_)
    exact (g.mono (fun r0 h2 q => ⟨q.1, w.tr q.2⟩)).lo (al_le_of (by simp) (by simp))
/-- a run at its beginning -/
def rz (r : rn) : rn := (fun k => if 0 ≤ k then 0 else r_st r k, fun _ => -1, fun _ => 0, fun _ => 0, fun _ => 0, fun _ => 0, fun _ => 0, fun _ => 0, fun _ => 0, fun _ => 0, fun h i => if 0 ≤ h ∧ h < 3 then 0 else r_sk r h i)
theorem rz_eq {r : rn} : ff (vec r) 0 = vec (rz r) := by
  funext k
  unfold ff
  by_cases c : 6 ≤ k ∧ k < 12
  · rw [if_pos c]
    unfold vec
    rw [if_neg (by omega), if_pos (by omega)]
    rfl
  · rw [if_neg c]
    by_cases c0 : k < 0
    · rw [if_neg (by omega)]
      unfold vec
      rw [if_pos (by omega), if_pos (by omega)]
      exact (if_neg (by omega)).symm
    · by_cases c1 : k < 66
      · rw [if_pos (by omega)]
        unfold vec
        by_cases d0 : k < 6
        · rw [if_pos d0]
          exact (if_pos (by omega)).symm
        · rw [if_neg d0, if_neg (by omega)]
          by_cases d1 : k < 48
          · (repeat' split) <;> first | rfl | (exfalso; omega)
          · rw [if_neg (by omega), if_neg (by omega), if_neg (by omega), if_neg (by omega), if_neg (by omega), if_neg (by omega), if_neg (by omega), if_neg (by omega)]
            exact (if_pos (by omega)).symm
      · rw [if_neg (by omega)]
        unfold vec
        rw [if_neg (by omega), if_neg (by omega), if_neg (by omega), if_neg (by omega), if_neg (by omega), if_neg (by omega), if_neg (by omega), if_neg (by omega), if_neg (by omega), if_neg (by omega)]
        rw [if_neg (by omega), if_neg (by omega), if_neg (by omega), if_neg (by omega), if_neg (by omega), if_neg (by omega), if_neg (by omega), if_neg (by omega), if_neg (by omega), if_neg (by omega)]
        exact (if_neg (by omega)).symm
theorem iv_rz {I : Nat → Int} {F : Nat → Int → Int} (hr : md_rg I F) {r : rn} : rn_iv I F (rz r) := by
  have s0 : ∀ t : Int, 0 ≤ t → r_st (rz r) t = 0 := fun t h => if_pos h
  have k0 : ∀ h i : Int, 0 ≤ h ∧ h < 3 → r_sk (rz r) h i = 0 := fun h i c => if_pos c
  refine ⟨⟨fun t ht => ?_, fun h hh => ?_, fun h i hh hi => ?_⟩, fun t ht => ?_, fun h hh => ?_, fun h i hh hi => ?_, fun h i j hh hi => ?_, fun h i hh hi => k0 h i hh, fun t ht hs => ?_, fun t ht hs => ⟨rfl, rfl, rfl, rfl⟩, fun t ht hs => ⟨rfl, rfl, ?_⟩, fun h i hh hi => ?_, fun h hh hm => ?_, fun h hh he => ?_, fun h hh => ⟨rfl, rfl, rfl, rfl⟩, fun t ht => s0 t ht.2.1, fun t ht hf => ?_⟩
  · rw [s0 t ht.1]
    exact ⟨by decide, by decide, Int.le_refl _, (by decide : (-1 : Int) ≤ 2), (by decide : (-9 : Int) ≤ 0), (by decide : (0 : Int) ≤ 9), (by decide : (-1 : Int) ≤ 0), (by decide : (0 : Int) ≤ 6), Int.le_refl _, (by decide : (0 : Int) ≤ 5), (by decide : (-9 : Int) ≤ 0), (by decide : (0 : Int) ≤ 9)⟩
  · exact ⟨Int.le_refl _, (by decide : (0 : Int) ≤ 7), Int.le_refl _, (by decide : (0 : Int) ≤ 5), (by decide : (-9 : Int) ≤ 0), (by decide : (0 : Int) ≤ 9), Int.le_refl _, (by decide : (0 : Int) ≤ 6)⟩
  · rw [k0 h i hh]
    decide
  · exact (hr.2.2.2.2.1 t ⟨by omega, by omega⟩).1
  · exact (hr.2.2.2.2.1 (6 + h) ⟨by omega, by omega⟩).1
  · have : i < 0 := hi.2
    omega
  · have : j < 0 := hi.2.2
    omega
  · rw [s0 t ht.1] at hs
    omega
  · exact (hr.2.1 t ht).2.2.2.2.2.2.1
  · have : i + 1 < 0 := hi.2
    omega
  · exact absurd hm (by show ¬ ((0 : Int) < 0); decide)
  · exact absurd rfl he
  · exact absurd rfl hf
theorem mu_rz {a : Int} {r : rn} : mu a (rz r) = 6 * a + 18 := by
  have s0 : ∀ t : Int, 0 ≤ t → mu_t a (rz r) t = a := fun t h => by
    have : r_st (rz r) t = 0 := if_pos h
    unfold mu_t mu_f
    rw [this, if_pos rfl]
  have h0 : ∀ t : Int, mu_h (rz r) t = 6 := fun t => by
    unfold mu_h mu_g
    rw [if_pos (show r_en (rz r) t = 0 from rfl)]
    rfl
  unfold mu s6 s3
  rw [s0 0 (by decide), s0 1 (by decide), s0 2 (by decide), s0 3 (by decide), s0 4 (by decide), s0 5 (by decide), h0, h0, h0]
  omega
theorem ct_first (d : Nat) (hd : 1 ≤ d) (h : am_H) (o : Nat) (I : Nat → Int) (F : Nat → Int → Int) (r : rn) (H : md_at h o I F) (h13 : F 13 = vec r) : am_Ct am_df am_MT d 105 [.ref o] h (fun r0 h' => r0 = none ∧ md_to h o (fs_I I) (va_up F 13 (vec (rz r))) h') := by
  have g := lp_first1 (d - 1) o I 66 0 h F H (by decide) (by decide)
  rw [h13, rz_eq] at g
  obtain ⟨d, rfl⟩ : ∃ e, d = e + 1 := ⟨d - 1, by omega⟩
  rw [Nat.add_sub_cancel] at g
  refine am_ct_of2 mt_Md_first (Nat.le_of_ble_eq_true rfl) ?_
  simp only [ar_nil, ar_int, ar_ref, ar_long, Nat.reduceAdd]
  refine am_go_of 10 [2, 14] _ c_Md_first_0 ?_
  simp (maxSteps := 2000000) (disch := omega) only [c_Md_first_0, c_Md_first_1, c_Md_first_2, c_Md_first_3, c_Md_first_4, c_Md_first_5, c_Md_first_6, c_Md_first_7, c_Md_first_8, c_Md_first_9, c_Md_first_10, c_Md_first_11, c_Md_first_12, c_Md_first_13, c_Md_first_14, c_Md_first_15, c_Md_first_16, c_Md_first_17, c_Md_first_18, c_Md_first_19, c_Md_first_20, c_Md_first_21, c_Md_first_22, c_Md_first_23, c_Md_first_24, c_Md_first_25, c_Md_first_26, c_Md_first_27, c_Md_first_28, c_Md_first_29, c_Md_first_30, c_Md_first_31, c_Md_first_32, c_Md_first_33, c_Md_first_34, c_Md_first_35, sx_aload_n, sx_bipush, sx_getfield, sx_goto, sx_iadd, sx_iastore, sx_iconst, sx_if_icmp_ge, sx_iinc, sx_iload_n, sx_istore_n, sx_putfield, sx_return, am_W_s, am_W_0, am_mm_some, List.mem_cons, or_false, false_or, or_self, or_true, true_or, reduceIte, if_false, if_true, am_o_some, am_o_none, am_o_bad, am_o_good, am_ldi_hit, am_ldi_miss, am_lda_hit, am_lda_miss, am_ldl_hit, am_ldl_miss, am_inc_eq, am_inc_hit, am_inc_miss, am_ob_hit, am_fd_0, am_fd_s, am_ai_hit, am_ab_3, am_al_hit, am_aq_4, am_al0_hit, am_put_1, am_put_2, am_put_put, am_up_hit, am_up_miss, am_s1_eq, am_s2_eq, am_fl_nil, am_fl_hit, am_fl_int, am_fl_ref, am_fl_long, am_fl_longx, am_fl2_nil, am_fl2_hit, am_fl2_hit1, am_fl2_int, am_fl2_ref, am_fl2_long, List.not_mem_nil, not_false_eq_true, ne_eq, Nat.reduceAdd, Nat.reduceEqDiff, Nat.zero_add, Nat.add_left_cancel_iff, List.set_cons_zero, List.set_cons_succ, List.length_cons, List.length_nil, Nat.reduceLT, am_ft_i, am_ft_r, am_ft_z, and_true, true_and, Option.toList_some, Option.toList_none, List.cons_append, List.nil_append, List.drop_succ_cons, List.drop_zero, iI_c, iI_b, iI_s, iI_n, iI_add, iI_sub, iI_mul, iI_neg, iI_nle, iI_ix, iI_eq0, iI_eq1, iI_lt0, iI_0lt, iI_le0, iI_0le, iI_eq, iI_lt, iI_le, iI_upd, iI_updZ, md_fs_len, md_f0, md_f1, md_f2, md_f3, md_f4, md_f5, md_f6, md_f7, md_f8, md_f9, md_f10, md_f11, md_f12, md_f13, md_f14, md_f15, md_f16, md_f17, md_f18, md_f19, md_f20, md_f21, md_f22, md_f23, md_f24, md_f25, md_f26, md_f27, md_f28, md_f29, md_f30, md_f31, md_f32, md_f33, md_f34, md_f35, md_s0, md_s1, md_s15, md_s16, md_s17, md_s23, md_s24, md_s31, md_t1, md_t2, md_t3, md_t4, md_t5, md_t6, md_t7, md_t8, md_t9, md_t10, md_t11, md_t12, md_t13, md_t14, md_t15, md_t16, md_t17, md_t18, md_t19, md_t20, md_t21, md_t22, md_t23, md_t24, md_t25, md_t26, md_t27, md_t28, md_l1, md_l2, md_l3, md_l4, md_l5, md_l6, md_l7, md_l8, md_l9, md_l10, md_l11, md_l12, md_l13, md_l14, md_l15, md_l16, md_l17, md_l18, md_l19, md_l20, md_l21, md_l22, md_l23, md_l24, md_l25, md_l26, md_l27, md_l28]
  exact g.lo (al_le_of (by simp) (by simp))
theorem lg_first {I : Nat → Int} {r : rn} (h : I 3 = 1) : lg_ok (fs_I I) (rz r) := by
  refine Or.inr ⟨h, Int.le_refl _, ?_⟩
  rw [mu_rz, show fs_I I 4 = 0 from rfl]
  decide
