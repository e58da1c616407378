theorem mt_Md_search : am_MT[152]? = some m_Md_search := rfl
theorem c_Md_search_0 : c_Md_search[0]? = some (0, 1, .aload_n 0, 0, 0, 0, 0, 0, []) := Eq.trans rfl rfl
theorem c_Md_search_1 : c_Md_search[1]? = some (1, 1, .iconst 0, 0, 0, 0, 0, 0, []) := Eq.trans rfl rfl
theorem c_Md_search_2 : c_Md_search[2]? = some (2, 3, .putfield 96, 8, 16, 0, 3, 773, []) := Eq.trans rfl rfl
theorem c_Md_search_3 : c_Md_search[3]? = some (5, 1, .aload_n 0, 0, 0, 0, 0, 0, []) := Eq.trans rfl rfl
theorem c_Md_search_4 : c_Md_search[4]? = some (6, 3, .invokevirtual 212, 153, 1, 8, 0, 1054, []) := Eq.trans rfl rfl
theorem c_Md_search_5 : c_Md_search[5]? = some (9, 1, .istore_n 1, 1, 0, 0, 0, 0, []) := Eq.trans rfl rfl
theorem c_Md_search_6 : c_Md_search[6]? = some (10, 1, .aload_n 0, 0, 0, 0, 0, 0, []) := Eq.trans rfl rfl
theorem c_Md_search_7 : c_Md_search[7]? = some (11, 1, .iconst 0, 0, 0, 0, 0, 0, []) := Eq.trans rfl rfl
theorem c_Md_search_8 : c_Md_search[8]? = some (12, 3, .invokevirtual 216, 156, 2, 8, 0, 1066, []) := Eq.trans rfl rfl
theorem c_Md_search_9 : c_Md_search[9]? = some (15, 1, .aload_n 0, 0, 0, 0, 0, 0, []) := Eq.trans rfl rfl
theorem c_Md_search_10 : c_Md_search[10]? = some (16, 1, .iconst 1, 0, 0, 0, 0, 0, []) := Eq.trans rfl rfl
theorem c_Md_search_11 : c_Md_search[11]? = some (17, 3, .putfield 96, 8, 16, 0, 3, 773, []) := Eq.trans rfl rfl
theorem c_Md_search_12 : c_Md_search[12]? = some (20, 1, .aload_n 0, 0, 0, 0, 0, 0, []) := Eq.trans rfl rfl
theorem c_Md_search_13 : c_Md_search[13]? = some (21, 1, .iload_n 1, 1, 0, 0, 0, 0, []) := Eq.trans rfl rfl
theorem c_Md_search_14 : c_Md_search[14]? = some (22, 3, .putfield 120, 8, 23, 0, 3, 780, []) := Eq.trans rfl rfl
theorem c_Md_search_15 : c_Md_search[15]? = some (25, 1, .iload_n 1, 1, 0, 0, 0, 0, []) := Eq.trans rfl rfl
theorem c_Md_search_16 : c_Md_search[16]? = some (26, 3, .ifCond .eq 10, 20, 0, 0, 0, 0, []) := Eq.trans rfl rfl
theorem c_Md_search_17 : c_Md_search[17]? = some (29, 1, .aload_n 0, 0, 0, 0, 0, 0, []) := Eq.trans rfl rfl
theorem c_Md_search_18 : c_Md_search[18]? = some (30, 3, .getfield 219, 8, 31, 0, 0, 788, []) := Eq.trans rfl rfl
theorem c_Md_search_19 : c_Md_search[19]? = some (33, 3, .goto 5, 21, 0, 0, 0, 0, []) := Eq.trans rfl rfl
theorem c_Md_search_20 : c_Md_search[20]? = some (36, 2, .bipush (-4), 0, 0, 0, 0, 0, []) := Eq.trans rfl rfl
theorem c_Md_search_21 : c_Md_search[21]? = some (38, 1, .ireturn, 0, 0, 0, 0, 0, []) := Eq.trans rfl rfl
/-- the first i heads are empty -/
def hd0 (f : Int → Int) (i : Int) : Int → Int := fun j => if 0 ≤ j ∧ j < i then -1 else f j
theorem hd0_0 {f : Int → Int} : hd0 f 0 = f := by
  funext j
  unfold hd0
  rw [if_neg (by omega)]
theorem hd0_s {f : Int → Int} {i : Int} (h : 0 ≤ i) : vI (hd0 f i) i (-1) = hd0 f (i + 1) := by
  funext j
  unfold vI hd0
  by_cases c1 : j = i
  · rw [if_pos c1, if_pos (by omega)]
  · rw [if_neg c1]
    by_cases c2 : 0 ≤ j ∧ j < i
    · rw [if_pos c2, if_pos (by omega)]
    · rw [if_neg c2, if_neg (by omega)]
set_option maxHeartbeats 8000000 in
theorem lp_hd (d : Nat) (h0 : am_H) (o : Nat) (J : Nat → Int) (F : Nat → Int → Int) (Q : Option Value → am_H → Prop)
    (hc : ∀ h, md_to h0 o J (va_up F 23 (hd0 (F 23) 4096)) h → am_Go am_df am_MT d c_Md_searches (18, [(0, .ref o)], [], h) Q) : ∀ (k : Nat) (i : Int) (h : am_H), md_to h0 o J (va_up F 23 (hd0 (F 23) i)) h → 0 ≤ i → i + k = 4096 → am_Go am_df am_MT d c_Md_searches (8, [(1, .int (iI i)), (0, .ref o)], [], h) Q := by
  intro k
  induction k with
  | zero =>
    intro i h T h1 h2
    have e : i = 4096 := by omega
    subst e
    have cc : (4096 : Int) ≤ 4096 := by decide
    have g := hc h T
    clear hc T
    refine am_go_of 10 [8, 18, 20, 23, 28, 35, 43, 45, 57, 96, 98, 102, 121] _ c_Md_searches_8 ?_
    simp (maxSteps := 2000000) (disch := omega) only [c_Md_searches_0, c_Md_searches_1, c_Md_searches_2, c_Md_searches_3, c_Md_searches_4, c_Md_searches_5, c_Md_searches_6, c_Md_searches_7, c_Md_searches_8, c_Md_searches_9, c_Md_searches_10, c_Md_searches_11, c_Md_searches_12, c_Md_searches_13, c_Md_searches_14, c_Md_searches_15, c_Md_searches_16, c_Md_searches_17, c_Md_searches_18, c_Md_searches_19, c_Md_searches_20, c_Md_searches_21, c_Md_searches_22, c_Md_searches_23, c_Md_searches_24, c_Md_searches_25, c_Md_searches_26, c_Md_searches_27, c_Md_searches_28, c_Md_searches_29, c_Md_searches_30, c_Md_searches_31, c_Md_searches_32, c_Md_searches_33, c_Md_searches_34, c_Md_searches_35, c_Md_searches_36, c_Md_searches_37, c_Md_searches_38, c_Md_searches_39, c_Md_searches_40, c_Md_searches_41, c_Md_searches_42, c_Md_searches_43, c_Md_searches_44, c_Md_searches_45, c_Md_searches_46, c_Md_searches_47, c_Md_searches_48, c_Md_searches_49, c_Md_searches_50, c_Md_searches_51, c_Md_searches_52, c_Md_searches_53, c_Md_searches_54, c_Md_searches_55, c_Md_searches_56, c_Md_searches_57, c_Md_searches_58, c_Md_searches_59, c_Md_searches_60, c_Md_searches_61, c_Md_searches_62, c_Md_searches_63, c_Md_searches_64, c_Md_searches_65, c_Md_searches_66, c_Md_searches_67, c_Md_searches_68, c_Md_searches_69, c_Md_searches_70, c_Md_searches_71, c_Md_searches_72, c_Md_searches_73, c_Md_searches_74, c_Md_searches_75, c_Md_searches_76, c_Md_searches_77, c_Md_searches_78, c_Md_searches_79, c_Md_searches_80, c_Md_searches_81, c_Md_searches_82, c_Md_searches_83, c_Md_searches_84, c_Md_searches_85, c_Md_searches_86, c_Md_searches_87, c_Md_searches_88, c_Md_searches_89, c_Md_searches_90, c_Md_searches_91, c_Md_searches_92, c_Md_searches_93, c_Md_searches_94, c_Md_searches_95, c_Md_searches_96, c_Md_searches_97, c_Md_searches_98, c_Md_searches_99, c_Md_searches_100, c_Md_searches_101, c_Md_searches_102, c_Md_searches_103, c_Md_searches_104, c_Md_searches_105, c_Md_searches_106, c_Md_searches_107, c_Md_searches_108, c_Md_searches_109, c_Md_searches_110, c_Md_searches_111, c_Md_searches_112, c_Md_searches_113, c_Md_searches_114, c_Md_searches_115, c_Md_searches_116, c_Md_searches_117, c_Md_searches_118, c_Md_searches_119, c_Md_searches_120, c_Md_searches_121, c_Md_searches_122, c_Md_searches_123, c_Md_searches_124, c_Md_searches_125, c_Md_searches_126, c_Md_searches_127, c_Md_searches_128, c_Md_searches_129, sx_aload_n, sx_dup2_ir, sx_getfield, sx_goto, sx_iadd, sx_iaload, sx_iastore, sx_iconst, sx_ifCond_eq, sx_ifCond_ne, sx_if_icmp_eq, sx_if_icmp_ge, sx_if_icmp_lt, sx_if_icmp_ne, sx_iinc, sx_iload, sx_iload_n, sx_ireturn, sx_istore, sx_istore_n, sx_isub, sx_putfield, sx_sipush, sx_zreturn, am_W_s, am_W_0, am_mm_some, List.mem_cons, or_false, false_or, or_self, or_true, true_or, reduceIte, if_false, if_true, am_o_some, am_o_none, am_o_bad, am_o_good, am_ldi_hit, am_ldi_miss, am_lda_hit, am_lda_miss, am_ldl_hit, am_ldl_miss, am_inc_eq, am_inc_hit, am_inc_miss, am_ob_hit, am_fd_0, am_fd_s, am_ai_hit, am_ab_3, am_al_hit, am_aq_4, am_al0_hit, am_put_1, am_put_2, am_put_put, am_up_hit, am_up_miss, am_s1_eq, am_s2_eq, am_fl_nil, am_fl_hit, am_fl_int, am_fl_ref, am_fl_long, am_fl_longx, am_fl2_nil, am_fl2_hit, am_fl2_hit1, am_fl2_int, am_fl2_ref, am_fl2_long, List.not_mem_nil, not_false_eq_true, ne_eq, Nat.reduceAdd, Nat.reduceEqDiff, Nat.zero_add, Nat.add_left_cancel_iff, List.set_cons_zero, List.set_cons_succ, List.length_cons, List.length_nil, Nat.reduceLT, am_ft_i, am_ft_r, am_ft_z, and_true, true_and, Option.toList_some, Option.toList_none, List.cons_append, List.nil_append, List.drop_succ_cons, List.drop_zero, iI_c, iI_b, iI_s, iI_n, iI_add, iI_sub, iI_mul, iI_neg, iI_nle, iI_ix, iI_eq0, iI_eq1, iI_lt0, iI_0lt, iI_le0, iI_0le, iI_eq, iI_lt, iI_le, iI_upd, iI_updZ, Int.reduceEq, Int.reduceLT, Int.reduceLE, Int.reduceNeg, Int.reduceNe, cc, md_fs_len, md_f0, md_f1, md_f2, md_f3, md_f4, md_f5, md_f6, md_f7, md_f8, md_f9, md_f10, md_f11, md_f12, md_f13, md_f14, md_f15, md_f16, md_f17, md_f18, md_f19, md_f20, md_f21, md_f22, md_f23, md_f24, md_f25, md_f26, md_f27, md_f28, md_f29, md_f30, md_f31, md_f32, md_f33, md_f34, md_f35, md_s0, md_s1, md_s15, md_s16, md_s17, md_s23, md_s24, md_s31, md_t1, md_t2, md_t3, md_t4, md_t5, md_t6, md_t7, md_t8, md_t9, md_t10, md_t11, md_t12, md_t13, md_t14, md_t15, md_t16, md_t17, md_t18, md_t19, md_t20, md_t21, md_t22, md_t23, md_t24, md_t25, md_t26, md_t27, md_t28, md_l1, md_l2, md_l3, md_l4, md_l5, md_l6, md_l7, md_l8, md_l9, md_l10, md_l11, md_l12, md_l13, md_l14, md_l15, md_l16, md_l17, md_l18, md_l19, md_l20, md_l21, md_l22, md_l23, md_l24, md_l25, md_l26, md_l27, md_l28]
    exact g.lo (al_le_of (by simp) (by simp))
  | succ k ih =>
    intro i h T h1 h2
    have cc : ¬ (4096 : Int) ≤ i := by omega
    obtain ⟨m0, hO, hA⟩ := T.1
    have a23 := hA 23 (by decide) (by decide)
    rw [va_up_hit] at a23
    have w := T.row (k := 23) (t := 0) (n := 4096) (g := vI (hd0 (F 23) i) i (-1)) (by decide) rfl rfl
    rw [va_up_up, hd0_s h1] at w
    have g := ih (i + 1) _ w (by omega) (by omega)
    rw [← hd0_s h1] at g
    clear ih hc w T hA
    generalize hd0 (F 23) i = O2 at *
    refine am_go_of 20 [8, 20, 23, 28, 35, 43, 45, 57, 96, 98, 102, 121] _ c_Md_searches_8 ?_
    simp (maxSteps := 2000000) (disch := omega) only [c_Md_searches_0, c_Md_searches_1, c_Md_searches_2, c_Md_searches_3, c_Md_searches_4, c_Md_searches_5, c_Md_searches_6, c_Md_searches_7, c_Md_searches_8, c_Md_searches_9, c_Md_searches_10, c_Md_searches_11, c_Md_searches_12, c_Md_searches_13, c_Md_searches_14, c_Md_searches_15, c_Md_searches_16, c_Md_searches_17, c_Md_searches_18, c_Md_searches_19, c_Md_searches_20, c_Md_searches_21, c_Md_searches_22, c_Md_searches_23, c_Md_searches_24, c_Md_searches_25, c_Md_searches_26, c_Md_searches_27, c_Md_searches_28, c_Md_searches_29, c_Md_searches_30, c_Md_searches_31, c_Md_searches_32, c_Md_searches_33, c_Md_searches_34, c_Md_searches_35, c_Md_searches_36, c_Md_searches_37, c_Md_searches_38, c_Md_searches_39, c_Md_searches_40, c_Md_searches_41, c_Md_searches_42, c_Md_searches_43, c_Md_searches_44, c_Md_searches_45, c_Md_searches_46, c_Md_searches_47, c_Md_searches_48, c_Md_searches_49, c_Md_searches_50, c_Md_searches_51, c_Md_searches_52, c_Md_searches_53, c_Md_searches_54, c_Md_searches_55, c_Md_searches_56, c_Md_searches_57, c_Md_searches_58, c_Md_searches_59, c_Md_searches_60, c_Md_searches_61, c_Md_searches_62, c_Md_searches_63, c_Md_searches_64, c_Md_searches_65, c_Md_searches_66, c_Md_searches_67, c_Md_searches_68, c_Md_searches_69, c_Md_searches_70, c_Md_searches_71, c_Md_searches_72, c_Md_searches_73, c_Md_searches_74, c_Md_searches_75, c_Md_searches_76, c_Md_searches_77, c_Md_searches_78, c_Md_searches_79, c_Md_searches_80, c_Md_searches_81, c_Md_searches_82, c_Md_searches_83, c_Md_searches_84, c_Md_searches_85, c_Md_searches_86, c_Md_searches_87, c_Md_searches_88, c_Md_searches_89, c_Md_searches_90, c_Md_searches_91, c_Md_searches_92, c_Md_searches_93, c_Md_searches_94, c_Md_searches_95, c_Md_searches_96, c_Md_searches_97, c_Md_searches_98, c_Md_searches_99, c_Md_searches_100, c_Md_searches_101, c_Md_searches_102, c_Md_searches_103, c_Md_searches_104, c_Md_searches_105, c_Md_searches_106, c_Md_searches_107, c_Md_searches_108, c_Md_searches_109, c_Md_searches_110, c_Md_searches_111, c_Md_searches_112, c_Md_searches_113, c_Md_searches_114, c_Md_searches_115, c_Md_searches_116, c_Md_searches_117, c_Md_searches_118, c_Md_searches_119, c_Md_searches_120, c_Md_searches_121, c_Md_searches_122, c_Md_searches_123, c_Md_searches_124, c_Md_searches_125, c_Md_searches_126, c_Md_searches_127, c_Md_searches_128, c_Md_searches_129, sx_aload_n, sx_dup2_ir, sx_getfield, sx_goto, sx_iadd, sx_iaload, sx_iastore, sx_iconst, sx_ifCond_eq, sx_ifCond_ne, sx_if_icmp_eq, sx_if_icmp_ge, sx_if_icmp_lt, sx_if_icmp_ne, sx_iinc, sx_iload, sx_iload_n, sx_ireturn, sx_istore, sx_istore_n, sx_isub, sx_putfield, sx_sipush, sx_zreturn, am_W_s, am_W_0, am_mm_some, List.mem_cons, or_false, false_or, or_self, or_true, true_or, reduceIte, if_false, if_true, am_o_some, am_o_none, am_o_bad, am_o_good, am_ldi_hit, am_ldi_miss, am_lda_hit, am_lda_miss, am_ldl_hit, am_ldl_miss, am_inc_eq, am_inc_hit, am_inc_miss, am_ob_hit, am_fd_0, am_fd_s, am_ai_hit, am_ab_3, am_al_hit, am_aq_4, am_al0_hit, am_put_1, am_put_2, am_put_put, am_up_hit, am_up_miss, am_s1_eq, am_s2_eq, am_fl_nil, am_fl_hit, am_fl_int, am_fl_ref, am_fl_long, am_fl_longx, am_fl2_nil, am_fl2_hit, am_fl2_hit1, am_fl2_int, am_fl2_ref, am_fl2_long, List.not_mem_nil, not_false_eq_true, ne_eq, Nat.reduceAdd, Nat.reduceEqDiff, Nat.zero_add, Nat.add_left_cancel_iff, List.set_cons_zero, List.set_cons_succ, List.length_cons, List.length_nil, Nat.reduceLT, am_ft_i, am_ft_r, am_ft_z, and_true, true_and, Option.toList_some, Option.toList_none, List.cons_append, List.nil_append, List.drop_succ_cons, List.drop_zero, iI_c, iI_b, iI_s, iI_n, iI_add, iI_sub, iI_mul, iI_neg, iI_nle, iI_ix, iI_eq0, iI_eq1, iI_lt0, iI_0lt, iI_le0, iI_0le, iI_eq, iI_lt, iI_le, iI_upd, iI_updZ, Int.reduceEq, Int.reduceLT, Int.reduceLE, Int.reduceNeg, Int.reduceNe, hO, a23, cc, md_fs_len, md_f0, md_f1, md_f2, md_f3, md_f4, md_f5, md_f6, md_f7, md_f8, md_f9, md_f10, md_f11, md_f12, md_f13, md_f14, md_f15, md_f16, md_f17, md_f18, md_f19, md_f20, md_f21, md_f22, md_f23, md_f24, md_f25, md_f26, md_f27, md_f28, md_f29, md_f30, md_f31, md_f32, md_f33, md_f34, md_f35, md_s0, md_s1, md_s15, md_s16, md_s17, md_s23, md_s24, md_s31, md_t1, md_t2, md_t3, md_t4, md_t5, md_t6, md_t7, md_t8, md_t9, md_t10, md_t11, md_t12, md_t13, md_t14, md_t15, md_t16, md_t17, md_t18, md_t19, md_t20, md_t21, md_t22, md_t23, md_t24, md_t25, md_t26, md_t27, md_t28, md_l1, md_l2, md_l3, md_l4, md_l5, md_l6, md_l7, md_l8, md_l9, md_l10, md_l11, md_l12, md_l13, md_l14, md_l15, md_l16, md_l17, md_l18, md_l19, md_l20, md_l21, md_l22, md_l23, md_l24, md_l25, md_l26, md_l27, md_l28]
    repeat (refine And.intro (by omega) ?_)
    exact g.lo (al_le_of (by simp) (by simp))
set_option maxHeartbeats 8000000 in
theorem ct_searches (d : Nat) (hd : 8 ≤ d) (h : am_H) (o : Nat) (I J : Nat → Int) (F : Nat → Int → Int) (H : md_at h o J F) (hJ : ∀ k : Nat, k ≠ 6 → k ≠ 7 → J k = va_up I 3 0 k) (hr : md_rg I F) (hw : md_wf I F) (h5 : ∀ t : Int, 0 ≤ t ∧ t < 6 → F 5 t = 0 ∨ F 5 t = 1) (r : rn) (hv : rn_iv I F r) (e13 : F 13 = vec r) : am_Ct am_df am_MT d 153 [.ref o] h (se_q h o I F r (s_all I F r)) := by
  have hO := H.2.1
  have hI := hr.1
  have T0 := (H.rf.num (I1 := va_up J 6 0)).num (I1 := va_up (va_up J 6 0) 7 0)
  have gl : ∀ h1, md_to h o (va_up (va_up J 6 0) 7 0) (va_up F 23 (hd0 (F 23) 4096)) h1 → am_Go am_df am_MT (d - 1) c_Md_searches (18, [(0, .ref o)], [], h1) (se_q h o I F r (s_all I F r)) := fun h1 T1 => by
    have hb := hsh_rg (F 13)
    have v1 : va_up F 23 (hd0 (F 23) 4096) 13 = vec r := (va_up_miss (by decide)).trans e13
    have g23 : ∀ b : Int, 0 ≤ b ∧ b < 4096 → va_up F 23 (hd0 (F 23) 4096) 23 b = -1 := fun b hb => by
      rw [va_up_hit]
      exact if_pos hb
    have M1 : ms_pt I F r (va_up (va_up J 6 0) 7 0) (va_up F 23 (hd0 (F 23) 4096)) (s_ini r) := by
      refine ⟨fun k k6 k7 => ?_, ⟨?_, va_up_hit⟩, sf.rf.up (Or.inl (by decide)), ⟨r, v1, ox.rf⟩, ⟨fun b hb => g23 b hb, fun q hq => ?_, fun q hq => ?_⟩, fun p k hp => ?_, fun p hp => ?_, fun i hi => ?_⟩
      · rw [va_up_miss k7, va_up_miss k6]
        exact hJ k k6 k7
      · exact (va_up_miss (by decide)).trans va_up_hit
      · have : q < 0 := hq
        omega
      · have : 0 ≤ q ∧ q < ((0 : Nat) : Int) := hq
        omega
      · have : 0 ≤ p ∧ p < 0 := hp
        omega
      · have : 0 ≤ p ∧ p < 0 := hp
        omega
      · have : 0 ≤ i ∧ i < 0 := hi
        omega
    have j6 : va_up (va_up J 6 0) 7 0 6 = 0 := (va_up_miss (by decide)).trans va_up_hit
    generalize va_up F 23 (hd0 (F 23) 4096) = G1 at *
    generalize va_up (va_up J 6 0) 7 0 = J1 at *
    have hO1 := T1.1.2.1
    have CH := ct_hash (d - 1) (by omega) h1 o J1 G1 T1.1
    have hb1 := hsh_rg (G1 13)
    have CK := ct_keep (d - 1) (by omega) h1 o J1 G1 T1.1 (hsh (G1 13)) (-1) (-1) 0 (by decide) (by omega) j6 (by rw [g23 _ (by omega)]; decide)
    have gk : ∀ h2, md_to h1 o (va_up J1 6 (0 + 1)) (kp_F (va_up G1 19 (cpy (G1 19) (G1 13) 0 0)) 0 (hsh (G1 13)) (-1) (-1)) h2 → am_Go am_df am_MT (d - 1) c_Md_searches (28, [(2, .int (iI 1)), (1, .int (iI 0)), (0, .ref o)], [], h2) (se_q h o I F r (s_all I F r)) := fun h2 w2 => by
      have T2 := T1.tr w2
      have SI0 : s_iv I F r (s_ini r) := s_ini_iv
      have M2 : ms_pt I F r (va_up J1 6 (0 + 1)) (kp_F (va_up G1 19 (cpy (G1 19) (G1 13) 0 0)) 0 (hsh (G1 13)) (-1) (-1)) (s_add (s_ini r) r 0 (fun _ => 0)) := ms_keep (w := fun _ => 0) SI0 M1 (by show (0 : Int) < 3000; decide) hv v1 ox.rf (was := -1) (th := -1) (l := 0) (Or.inl ⟨rfl, rfl⟩)
      have x20 : kp_F (va_up G1 19 (cpy (G1 19) (G1 13) 0 0)) 0 (hsh (G1 13)) (-1) (-1) 20 = vI (G1 20) 0 (-1) := rfl
      have x22 : kp_F (va_up G1 19 (cpy (G1 19) (G1 13) 0 0)) 0 (hsh (G1 13)) (-1) (-1) 22 = vI (G1 22) 0 0 := rfl
      generalize kp_F (va_up G1 19 (cpy (G1 19) (G1 13) 0 0)) 0 (hsh (G1 13)) (-1) (-1) = G2 at *
      have m := mu_0 (a := 8) hv.1 (by decide)
      rw [if_neg (by decide)] at m
      have SI : s_iv I F r (s_add (s_ini r) r 0 (fun _ => 0)) := s_add_iv SI0 (by show (0 : Int) ≠ 3000; decide) hv ox.rf ⟨Int.le_refl _, by omega⟩ (fun j hj => by omega) (fun _ => rfl)
      have en : a_pt (s_add (s_ini r) r 0 (fun _ => 0)) 0 = r := by
        show vU (fun _ => r) 0 r 0 = r
        exact vU_hit
      have hs0 : s_come I F (s_ini r) r 0 (fun _ => 0) = if an1 I F r 3 = 1 then some (s_stk (s_add (s_ini r) r 0 (fun _ => 0)) [(0, 0)]) else s_out I F (s_add (s_ini r) r 0 (fun _ => 0)) 0 := (if_neg (fun z => Bool.noConfusion z)).trans (if_neg (by show ¬ (0 : Int) = 3000; decide))
      have go : ∀ A', s_come I F (s_ini r) r 0 (fun _ => 0) = some A' → ∀ h3 J3 G3, md_to h o J3 G3 h3 → ms_pt I F r J3 G3 A' → ms_tr G3 (a_sk A') → am_Go am_df am_MT (d - 1) c_Md_searches (28, [(2, .int (iI 1)), (1, .int (iI (s_hd (a_sk A')))), (0, .ref o)], [], h3) (se_q h o I F r (s_all I F r)) := fun A' eA h3 J3 G3 T3 M3 t3 => by
        have q := s_fst_iv hv eA
        have nn : 1 ≤ a_n A' := by
          rw [hs0] at eA
          by_cases ca : an1 I F r 3 = 1
          · rw [if_pos ca] at eA
            have e := Option.some.inj eA
            rw [← e]
            show (1 : Int) ≤ 0 + 1
            decide
          · rw [if_neg ca] at eA
            have e := (s_out_iv SI (by show (0 : Int) ≤ 0 ∧ (0 : Int) < 0 + 1; decide) eA).2.1
            rw [e]
            show (1 : Int) ≤ 0 + 1
            decide
        have ea : s_all I F r = s_run I F 12000 A' := by
          unfold s_all
          rw [eA]
          rfl
        rw [ea]
        exact lp_se (d - 1) (by omega) h o I F hr hw h5 r 12000 A' h3 J3 G3 q.1 nn q.2 T3 M3 t3
      by_cases ca : an1 I F r 3 = 1
      · have g := go _ (hs0.trans (if_pos ca)) h2 _ G2 T2 M2.stk ⟨by rw [x22]; exact vI_hit, by rw [x20]; exact vI_hit, trivial⟩
        exact g
      · have eo := hs0.trans (if_neg ca)
        refine se_new (d - 1) (by omega) h h2 o I F hr h5 r (s_add (s_ini r) r 0 (fun _ => 0)) SI _ G2 T2 M2 0 (by show (0 : Int) ≤ 0 ∧ (0 : Int) < 0 + 1; decide) (by rw [x22]; exact vI_hit) (by rw [x20]; exact vI_hit) trivial (fun e he => by cases he) (by rw [en]; exact ca) _ (fun A' h' J' G' e1 T' M' t' => go A' (eo.trans e1) h' J' G' T' M' t') (fun e1 h' G' T' M' => ?_)
        have ea : s_all I F r = none := by
          unfold s_all
          rw [eo, e1]
          rfl
        have g : se_q h o I F r (s_all I F r) (some (.int (iI 0))) h' := by
          rw [ea]
          exact ⟨rfl, _, G', T', M'.rs SI (by show (1 : Int) ≤ 0 + 1; decide)⟩
        have eh : s_hd (a_sk (s_add (s_ini r) r 0 (fun _ => 0))) = -1 := rfl
        rw [eh]
        clear go
        generalize se_q h o I F r (s_all I F r) = Q at *
        refine am_go_of 10 [8, 20, 23, 28, 35, 43, 45, 57, 96, 98, 102, 121] _ c_Md_searches_28 ?_
        simp (maxSteps := 2000000) (disch := omega) only [c_Md_searches_0, c_Md_searches_1, c_Md_searches_2, c_Md_searches_3, c_Md_searches_4, c_Md_searches_5, c_Md_searches_6, c_Md_searches_7, c_Md_searches_8, c_Md_searches_9, c_Md_searches_10, c_Md_searches_11, c_Md_searches_12, c_Md_searches_13, c_Md_searches_14, c_Md_searches_15, c_Md_searches_16, c_Md_searches_17, c_Md_searches_18, c_Md_searches_19, c_Md_searches_20, c_Md_searches_21, c_Md_searches_22, c_Md_searches_23, c_Md_searches_24, c_Md_searches_25, c_Md_searches_26, c_Md_searches_27, c_Md_searches_28, c_Md_searches_29, c_Md_searches_30, c_Md_searches_31, c_Md_searches_32, c_Md_searches_33, c_Md_searches_34, c_Md_searches_35, c_Md_searches_36, c_Md_searches_37, c_Md_searches_38, c_Md_searches_39, c_Md_searches_40, c_Md_searches_41, c_Md_searches_42, c_Md_searches_43, c_Md_searches_44, c_Md_searches_45, c_Md_searches_46, c_Md_searches_47, c_Md_searches_48, c_Md_searches_49, c_Md_searches_50, c_Md_searches_51, c_Md_searches_52, c_Md_searches_53, c_Md_searches_54, c_Md_searches_55, c_Md_searches_56, c_Md_searches_57, c_Md_searches_58, c_Md_searches_59, c_Md_searches_60, c_Md_searches_61, c_Md_searches_62, c_Md_searches_63, c_Md_searches_64, c_Md_searches_65, c_Md_searches_66, c_Md_searches_67, c_Md_searches_68, c_Md_searches_69, c_Md_searches_70, c_Md_searches_71, c_Md_searches_72, c_Md_searches_73, c_Md_searches_74, c_Md_searches_75, c_Md_searches_76, c_Md_searches_77, c_Md_searches_78, c_Md_searches_79, c_Md_searches_80, c_Md_searches_81, c_Md_searches_82, c_Md_searches_83, c_Md_searches_84, c_Md_searches_85, c_Md_searches_86, c_Md_searches_87, c_Md_searches_88, c_Md_searches_89, c_Md_searches_90, c_Md_searches_91, c_Md_searches_92, c_Md_searches_93, c_Md_searches_94, c_Md_searches_95, c_Md_searches_96, c_Md_searches_97, c_Md_searches_98, c_Md_searches_99, c_Md_searches_100, c_Md_searches_101, c_Md_searches_102, c_Md_searches_103, c_Md_searches_104, c_Md_searches_105, c_Md_searches_106, c_Md_searches_107, c_Md_searches_108, c_Md_searches_109, c_Md_searches_110, c_Md_searches_111, c_Md_searches_112, c_Md_searches_113, c_Md_searches_114, c_Md_searches_115, c_Md_searches_116, c_Md_searches_117, c_Md_searches_118, c_Md_searches_119, c_Md_searches_120, c_Md_searches_121, c_Md_searches_122, c_Md_searches_123, c_Md_searches_124, c_Md_searches_125, c_Md_searches_126, c_Md_searches_127, c_Md_searches_128, c_Md_searches_129, sx_aload_n, sx_dup2_ir, sx_getfield, sx_goto, sx_iadd, sx_iaload, sx_iastore, sx_iconst, sx_ifCond_eq, sx_ifCond_ne, sx_if_icmp_eq, sx_if_icmp_ge, sx_if_icmp_lt, sx_if_icmp_ne, sx_iinc, sx_iload, sx_iload_n, sx_ireturn, sx_istore, sx_istore_n, sx_isub, sx_putfield, sx_sipush, sx_zreturn, am_W_s, am_W_0, am_mm_some, List.mem_cons, or_false, false_or, or_self, or_true, true_or, reduceIte, if_false, if_true, am_o_some, am_o_none, am_o_bad, am_o_good, am_ldi_hit, am_ldi_miss, am_lda_hit, am_lda_miss, am_ldl_hit, am_ldl_miss, am_inc_eq, am_inc_hit, am_inc_miss, am_ob_hit, am_fd_0, am_fd_s, am_ai_hit, am_ab_3, am_al_hit, am_aq_4, am_al0_hit, am_put_1, am_put_2, am_put_put, am_up_hit, am_up_miss, am_s1_eq, am_s2_eq, am_fl_nil, am_fl_hit, am_fl_int, am_fl_ref, am_fl_long, am_fl_longx, am_fl2_nil, am_fl2_hit, am_fl2_hit1, am_fl2_int, am_fl2_ref, am_fl2_long, List.not_mem_nil, not_false_eq_true, ne_eq, Nat.reduceAdd, Nat.reduceEqDiff, Nat.zero_add, Nat.add_left_cancel_iff, List.set_cons_zero, List.set_cons_succ, List.length_cons, List.length_nil, Nat.reduceLT, am_ft_i, am_ft_r, am_ft_z, and_true, true_and, Option.toList_some, Option.toList_none, List.cons_append, List.nil_append, List.drop_succ_cons, List.drop_zero, iI_c, iI_b, iI_s, iI_n, iI_add, iI_sub, iI_mul, iI_neg, iI_nle, iI_ix, iI_eq0, iI_eq1, iI_lt0, iI_0lt, iI_le0, iI_0le, iI_eq, iI_lt, iI_le, iI_upd, iI_updZ, Int.reduceEq, Int.reduceLT, Int.reduceLE, Int.reduceNeg, Int.reduceNe, md_fs_len, md_f0, md_f1, md_f2, md_f3, md_f4, md_f5, md_f6, md_f7, md_f8, md_f9, md_f10, md_f11, md_f12, md_f13, md_f14, md_f15, md_f16, md_f17, md_f18, md_f19, md_f20, md_f21, md_f22, md_f23, md_f24, md_f25, md_f26, md_f27, md_f28, md_f29, md_f30, md_f31, md_f32, md_f33, md_f34, md_f35, md_s0, md_s1, md_s15, md_s16, md_s17, md_s23, md_s24, md_s31, md_t1, md_t2, md_t3, md_t4, md_t5, md_t6, md_t7, md_t8, md_t9, md_t10, md_t11, md_t12, md_t13, md_t14, md_t15, md_t16, md_t17, md_t18, md_t19, md_t20, md_t21, md_t22, md_t23, md_t24, md_t25, md_t26, md_t27, md_t28, md_l1, md_l2, md_l3, md_l4, md_l5, md_l6, md_l7, md_l8, md_l9, md_l10, md_l11, md_l12, md_l13, md_l14, md_l15, md_l16, md_l17, md_l18, md_l19, md_l20, md_l21, md_l22, md_l23, md_l24, md_l25, md_l26, md_l27, md_l28]
        exact g
    clear M1 v1
    generalize se_q h o I F r (s_all I F r) = Q at *
    refine am_go_of 5 [8, 20, 23, 28, 35, 43, 45, 57, 96, 98, 102, 121] _ c_Md_searches_18 ?_
    simp (maxSteps := 2000000) (disch := omega) only [c_Md_searches_0, c_Md_searches_1, c_Md_searches_2, c_Md_searches_3, c_Md_searches_4, c_Md_searches_5, c_Md_searches_6, c_Md_searches_7, c_Md_searches_8, c_Md_searches_9, c_Md_searches_10, c_Md_searches_11, c_Md_searches_12, c_Md_searches_13, c_Md_searches_14, c_Md_searches_15, c_Md_searches_16, c_Md_searches_17, c_Md_searches_18, c_Md_searches_19, c_Md_searches_20, c_Md_searches_21, c_Md_searches_22, c_Md_searches_23, c_Md_searches_24, c_Md_searches_25, c_Md_searches_26, c_Md_searches_27, c_Md_searches_28, c_Md_searches_29, c_Md_searches_30, c_Md_searches_31, c_Md_searches_32, c_Md_searches_33, c_Md_searches_34, c_Md_searches_35, c_Md_searches_36, c_Md_searches_37, c_Md_searches_38, c_Md_searches_39, c_Md_searches_40, c_Md_searches_41, c_Md_searches_42, c_Md_searches_43, c_Md_searches_44, c_Md_searches_45, c_Md_searches_46, c_Md_searches_47, c_Md_searches_48, c_Md_searches_49, c_Md_searches_50, c_Md_searches_51, c_Md_searches_52, c_Md_searches_53, c_Md_searches_54, c_Md_searches_55, c_Md_searches_56, c_Md_searches_57, c_Md_searches_58, c_Md_searches_59, c_Md_searches_60, c_Md_searches_61, c_Md_searches_62, c_Md_searches_63, c_Md_searches_64, c_Md_searches_65, c_Md_searches_66, c_Md_searches_67, c_Md_searches_68, c_Md_searches_69, c_Md_searches_70, c_Md_searches_71, c_Md_searches_72, c_Md_searches_73, c_Md_searches_74, c_Md_searches_75, c_Md_searches_76, c_Md_searches_77, c_Md_searches_78, c_Md_searches_79, c_Md_searches_80, c_Md_searches_81, c_Md_searches_82, c_Md_searches_83, c_Md_searches_84, c_Md_searches_85, c_Md_searches_86, c_Md_searches_87, c_Md_searches_88, c_Md_searches_89, c_Md_searches_90, c_Md_searches_91, c_Md_searches_92, c_Md_searches_93, c_Md_searches_94, c_Md_searches_95, c_Md_searches_96, c_Md_searches_97, c_Md_searches_98, c_Md_searches_99, c_Md_searches_100, c_Md_searches_101, c_Md_searches_102, c_Md_searches_103, c_Md_searches_104, c_Md_searches_105, c_Md_searches_106, c_Md_searches_107, c_Md_searches_108, c_Md_searches_109, c_Md_searches_110, c_Md_searches_111, c_Md_searches_112, c_Md_searches_113, c_Md_searches_114, c_Md_searches_115, c_Md_searches_116, c_Md_searches_117, c_Md_searches_118, c_Md_searches_119, c_Md_searches_120, c_Md_searches_121, c_Md_searches_122, c_Md_searches_123, c_Md_searches_124, c_Md_searches_125, c_Md_searches_126, c_Md_searches_127, c_Md_searches_128, c_Md_searches_129, sx_aload_n, sx_dup2_ir, sx_getfield, sx_goto, sx_iadd, sx_iaload, sx_iastore, sx_iconst, sx_ifCond_eq, sx_ifCond_ne, sx_if_icmp_eq, sx_if_icmp_ge, sx_if_icmp_lt, sx_if_icmp_ne, sx_iinc, sx_iload, sx_iload_n, sx_ireturn, sx_istore, sx_istore_n, sx_isub, sx_putfield, sx_sipush, sx_zreturn, am_W_s, am_W_0, am_mm_some, List.mem_cons, or_false, false_or, or_self, or_true, true_or, reduceIte, if_false, if_true, am_o_some, am_o_none, am_o_bad, am_o_good, am_ldi_hit, am_ldi_miss, am_lda_hit, am_lda_miss, am_ldl_hit, am_ldl_miss, am_inc_eq, am_inc_hit, am_inc_miss, am_ob_hit, am_fd_0, am_fd_s, am_ai_hit, am_ab_3, am_al_hit, am_aq_4, am_al0_hit, am_put_1, am_put_2, am_put_put, am_up_hit, am_up_miss, am_s1_eq, am_s2_eq, am_fl_nil, am_fl_hit, am_fl_int, am_fl_ref, am_fl_long, am_fl_longx, am_fl2_nil, am_fl2_hit, am_fl2_hit1, am_fl2_int, am_fl2_ref, am_fl2_long, List.not_mem_nil, not_false_eq_true, ne_eq, Nat.reduceAdd, Nat.reduceEqDiff, Nat.zero_add, Nat.add_left_cancel_iff, List.set_cons_zero, List.set_cons_succ, List.length_cons, List.length_nil, Nat.reduceLT, am_ft_i, am_ft_r, am_ft_z, and_true, true_and, Option.toList_some, Option.toList_none, List.cons_append, List.nil_append, List.drop_succ_cons, List.drop_zero, iI_c, iI_b, iI_s, iI_n, iI_add, iI_sub, iI_mul, iI_neg, iI_nle, iI_ix, iI_eq0, iI_eq1, iI_lt0, iI_0lt, iI_le0, iI_0le, iI_eq, iI_lt, iI_le, iI_upd, iI_updZ, Int.reduceEq, Int.reduceLT, Int.reduceLE, Int.reduceNeg, Int.reduceNe, md_fs_len, md_f0, md_f1, md_f2, md_f3, md_f4, md_f5, md_f6, md_f7, md_f8, md_f9, md_f10, md_f11, md_f12, md_f13, md_f14, md_f15, md_f16, md_f17, md_f18, md_f19, md_f20, md_f21, md_f22, md_f23, md_f24, md_f25, md_f26, md_f27, md_f28, md_f29, md_f30, md_f31, md_f32, md_f33, md_f34, md_f35, md_s0, md_s1, md_s15, md_s16, md_s17, md_s23, md_s24, md_s31, md_t1, md_t2, md_t3, md_t4, md_t5, md_t6, md_t7, md_t8, md_t9, md_t10, md_t11, md_t12, md_t13, md_t14, md_t15, md_t16, md_t17, md_t18, md_t19, md_t20, md_t21, md_t22, md_t23, md_t24, md_t25, md_t26, md_t27, md_t28, md_l1, md_l2, md_l3, md_l4, md_l5, md_l6, md_l7, md_l8, md_l9, md_l10, md_l11, md_l12, md_l13, md_l14, md_l15, md_l16, md_l17, md_l18, md_l19, md_l20, md_l21, md_l22, md_l23, md_l24, md_l25, md_l26, md_l27, md_l28]
    refine am_go_call c_Md_searches_20 (by decide) (by decide) (by first | (simp [am_can, am_kd, Value.category, hO1]; done) | (simp [am_can, am_kd, am_b, am_c, Value.category, hO1]; done) | (simp (disch := omega) [am_can, am_kd, am_b, am_c, Value.category, am_put_1, am_up_hit, am_up_miss, hO1]; done)) ?_
    refine CH.mono (fun r9 h9 hr9 => ?_)
    obtain ⟨rfl, rfl⟩ := hr9
    refine am_go_of 5 [8, 20, 23, 28, 35, 43, 45, 57, 96, 98, 102, 121] _ c_Md_searches_21 ?_
    simp (maxSteps := 2000000) (disch := omega) only [c_Md_searches_0, c_Md_searches_1, c_Md_searches_2, c_Md_searches_3, c_Md_searches_4, c_Md_searches_5, c_Md_searches_6, c_Md_searches_7, c_Md_searches_8, c_Md_searches_9, c_Md_searches_10, c_Md_searches_11, c_Md_searches_12, c_Md_searches_13, c_Md_searches_14, c_Md_searches_15, c_Md_searches_16, c_Md_searches_17, c_Md_searches_18, c_Md_searches_19, c_Md_searches_20, c_Md_searches_21, c_Md_searches_22, c_Md_searches_23, c_Md_searches_24, c_Md_searches_25, c_Md_searches_26, c_Md_searches_27, c_Md_searches_28, c_Md_searches_29, c_Md_searches_30, c_Md_searches_31, c_Md_searches_32, c_Md_searches_33, c_Md_searches_34, c_Md_searches_35, c_Md_searches_36, c_Md_searches_37, c_Md_searches_38, c_Md_searches_39, c_Md_searches_40, c_Md_searches_41, c_Md_searches_42, c_Md_searches_43, c_Md_searches_44, c_Md_searches_45, c_Md_searches_46, c_Md_searches_47, c_Md_searches_48, c_Md_searches_49, c_Md_searches_50, c_Md_searches_51, c_Md_searches_52, c_Md_searches_53, c_Md_searches_54, c_Md_searches_55, c_Md_searches_56, c_Md_searches_57, c_Md_searches_58, c_Md_searches_59, c_Md_searches_60, c_Md_searches_61, c_Md_searches_62, c_Md_searches_63, c_Md_searches_64, c_Md_searches_65, c_Md_searches_66, c_Md_searches_67, c_Md_searches_68, c_Md_searches_69, c_Md_searches_70, c_Md_searches_71, c_Md_searches_72, c_Md_searches_73, c_Md_searches_74, c_Md_searches_75, c_Md_searches_76, c_Md_searches_77, c_Md_searches_78, c_Md_searches_79, c_Md_searches_80, c_Md_searches_81, c_Md_searches_82, c_Md_searches_83, c_Md_searches_84, c_Md_searches_85, c_Md_searches_86, c_Md_searches_87, c_Md_searches_88, c_Md_searches_89, c_Md_searches_90, c_Md_searches_91, c_Md_searches_92, c_Md_searches_93, c_Md_searches_94, c_Md_searches_95, c_Md_searches_96, c_Md_searches_97, c_Md_searches_98, c_Md_searches_99, c_Md_searches_100, c_Md_searches_101, c_Md_searches_102, c_Md_searches_103, c_Md_searches_104, c_Md_searches_105, c_Md_searches_106, c_Md_searches_107, c_Md_searches_108, c_Md_searches_109, c_Md_searches_110, c_Md_searches_111, c_Md_searches_112, c_Md_searches_113, c_Md_searches_114, c_Md_searches_115, c_Md_searches_116, c_Md_searches_117, c_Md_searches_118, c_Md_searches_119, c_Md_searches_120, c_Md_searches_121, c_Md_searches_122, c_Md_searches_123, c_Md_searches_124, c_Md_searches_125, c_Md_searches_126, c_Md_searches_127, c_Md_searches_128, c_Md_searches_129, sx_aload_n, sx_dup2_ir, sx_getfield, sx_goto, sx_iadd, sx_iaload, sx_iastore, sx_iconst, sx_ifCond_eq, sx_ifCond_ne, sx_if_icmp_eq, sx_if_icmp_ge, sx_if_icmp_lt, sx_if_icmp_ne, sx_iinc, sx_iload, sx_iload_n, sx_ireturn, sx_istore, sx_istore_n, sx_isub, sx_putfield, sx_sipush, sx_zreturn, am_W_s, am_W_0, am_mm_some, List.mem_cons, or_false, false_or, or_self, or_true, true_or, reduceIte, if_false, if_true, am_o_some, am_o_none, am_o_bad, am_o_good, am_ldi_hit, am_ldi_miss, am_lda_hit, am_lda_miss, am_ldl_hit, am_ldl_miss, am_inc_eq, am_inc_hit, am_inc_miss, am_ob_hit, am_fd_0, am_fd_s, am_ai_hit, am_ab_3, am_al_hit, am_aq_4, am_al0_hit, am_put_1, am_put_2, am_put_put, am_up_hit, am_up_miss, am_s1_eq, am_s2_eq, am_fl_nil, am_fl_hit, am_fl_int, am_fl_ref, am_fl_long, am_fl_longx, am_fl2_nil, am_fl2_hit, am_fl2_hit1, am_fl2_int, am_fl2_ref, am_fl2_long, List.not_mem_nil, not_false_eq_true, ne_eq, Nat.reduceAdd, Nat.reduceEqDiff, Nat.zero_add, Nat.add_left_cancel_iff, List.set_cons_zero, List.set_cons_succ, List.length_cons, List.length_nil, Nat.reduceLT, am_ft_i, am_ft_r, am_ft_z, and_true, true_and, Option.toList_some, Option.toList_none, List.cons_append, List.nil_append, List.drop_succ_cons, List.drop_zero, iI_c, iI_b, iI_s, iI_n, iI_add, iI_sub, iI_mul, iI_neg, iI_nle, iI_ix, iI_eq0, iI_eq1, iI_lt0, iI_0lt, iI_le0, iI_0le, iI_eq, iI_lt, iI_le, iI_upd, iI_updZ, Int.reduceEq, Int.reduceLT, Int.reduceLE, Int.reduceNeg, Int.reduceNe, md_fs_len, md_f0, md_f1, md_f2, md_f3, md_f4, md_f5, md_f6, md_f7, md_f8, md_f9, md_f10, md_f11, md_f12, md_f13, md_f14, md_f15, md_f16, md_f17, md_f18, md_f19, md_f20, md_f21, md_f22, md_f23, md_f24, md_f25, md_f26, md_f27, md_f28, md_f29, md_f30, md_f31, md_f32, md_f33, md_f34, md_f35, md_s0, md_s1, md_s15, md_s16, md_s17, md_s23, md_s24, md_s31, md_t1, md_t2, md_t3, md_t4, md_t5, md_t6, md_t7, md_t8, md_t9, md_t10, md_t11, md_t12, md_t13, md_t14, md_t15, md_t16, md_t17, md_t18, md_t19, md_t20, md_t21, md_t22, md_t23, md_t24, md_t25, md_t26, md_t27, md_t28, md_l1, md_l2, md_l3, md_l4, md_l5, md_l6, md_l7, md_l8, md_l9, md_l10, md_l11, md_l12, md_l13, md_l14, md_l15, md_l16, md_l17, md_l18, md_l19, md_l20, md_l21, md_l22, md_l23, md_l24, md_l25, md_l26, md_l27, md_l28]
    refine am_go_call c_Md_searches_23 (by decide) (by decide) (by first | (simp [am_can, am_kd, Value.category, hO1]; done) | (simp [am_can, am_kd, am_b, am_c, Value.category, hO1]; done) | (simp (disch := omega) [am_can, am_kd, am_b, am_c, Value.category, am_put_1, am_up_hit, am_up_miss, hO1]; done)) ?_
    refine CK.mono (fun r9 h8 hr9 => ?_)
    obtain ⟨rfl, w⟩ := hr9
    have g := gk h8 w
    clear gk CH CK
    refine am_go_of 10 [8, 20, 23, 28, 35, 43, 45, 57, 96, 98, 102, 121] _ c_Md_searches_24 ?_
    simp (maxSteps := 2000000) (disch := omega) only [c_Md_searches_0, c_Md_searches_1, c_Md_searches_2, c_Md_searches_3, c_Md_searches_4, c_Md_searches_5, c_Md_searches_6, c_Md_searches_7, c_Md_searches_8, c_Md_searches_9, c_Md_searches_10, c_Md_searches_11, c_Md_searches_12, c_Md_searches_13, c_Md_searches_14, c_Md_searches_15, c_Md_searches_16, c_Md_searches_17, c_Md_searches_18, c_Md_searches_19, c_Md_searches_20, c_Md_searches_21, c_Md_searches_22, c_Md_searches_23, c_Md_searches_24, c_Md_searches_25, c_Md_searches_26, c_Md_searches_27, c_Md_searches_28, c_Md_searches_29, c_Md_searches_30, c_Md_searches_31, c_Md_searches_32, c_Md_searches_33, c_Md_searches_34, c_Md_searches_35, c_Md_searches_36, c_Md_searches_37, c_Md_searches_38, c_Md_searches_39, c_Md_searches_40, c_Md_searches_41, c_Md_searches_42, c_Md_searches_43, c_Md_searches_44, c_Md_searches_45, c_Md_searches_46, c_Md_searches_47, c_Md_searches_48, c_Md_searches_49, c_Md_searches_50, c_Md_searches_51, c_Md_searches_52, c_Md_searches_53, c_Md_searches_54, c_Md_searches_55, c_Md_searches_56, c_Md_searches_57, c_Md_searches_58, c_Md_searches_59, c_Md_searches_60, c_Md_searches_61, c_Md_searches_62, c_Md_searches_63, c_Md_searches_64, c_Md_searches_65, c_Md_searches_66, c_Md_searches_67, c_Md_searches_68, c_Md_searches_69, c_Md_searches_70, c_Md_searches_71, c_Md_searches_72, c_Md_searches_73, c_Md_searches_74, c_Md_searches_75, c_Md_searches_76, c_Md_searches_77, c_Md_searches_78, c_Md_searches_79, c_Md_searches_80, c_Md_searches_81, c_Md_searches_82, c_Md_searches_83, c_Md_searches_84, c_Md_searches_85, c_Md_searches_86, c_Md_searches_87, c_Md_searches_88, c_Md_searches_89, c_Md_searches_90, c_Md_searches_91, c_Md_searches_92, c_Md_searches_93, c_Md_searches_94, c_Md_searches_95, c_Md_searches_96, c_Md_searches_97, c_Md_searches_98, c_Md_searches_99, c_Md_searches_100, c_Md_searches_101, c_Md_searches_102, c_Md_searches_103, c_Md_searches_104, c_Md_searches_105, c_Md_searches_106, c_Md_searches_107, c_Md_searches_108, c_Md_searches_109, c_Md_searches_110, c_Md_searches_111, c_Md_searches_112, c_Md_searches_113, c_Md_searches_114, c_Md_searches_115, c_Md_searches_116, c_Md_searches_117, c_Md_searches_118, c_Md_searches_119, c_Md_searches_120, c_Md_searches_121, c_Md_searches_122, c_Md_searches_123, c_Md_searches_124, c_Md_searches_125, c_Md_searches_126, c_Md_searches_127, c_Md_searches_128, c_Md_searches_129, sx_aload_n, sx_dup2_ir, sx_getfield, sx_goto, sx_iadd, sx_iaload, sx_iastore, sx_iconst, sx_ifCond_eq, sx_ifCond_ne, sx_if_icmp_eq, sx_if_icmp_ge, sx_if_icmp_lt, sx_if_icmp_ne, sx_iinc, sx_iload, sx_iload_n, sx_ireturn, sx_istore, sx_istore_n, sx_isub, sx_putfield, sx_sipush, sx_zreturn, am_W_s, am_W_0, am_mm_some, List.mem_cons, or_false, false_or, or_self, or_true, true_or, reduceIte, if_false, if_true, am_o_some, am_o_none, am_o_bad, am_o_good, am_ldi_hit, am_ldi_miss, am_lda_hit, am_lda_miss, am_ldl_hit, am_ldl_miss, am_inc_eq, am_inc_hit, am_inc_miss, am_ob_hit, am_fd_0, am_fd_s, am_ai_hit, am_ab_3, am_al_hit, am_aq_4, am_al0_hit, am_put_1, am_put_2, am_put_put, am_up_hit, am_up_miss, am_s1_eq, am_s2_eq, am_fl_nil, am_fl_hit, am_fl_int, am_fl_ref, am_fl_long, am_fl_longx, am_fl2_nil, am_fl2_hit, am_fl2_hit1, am_fl2_int, am_fl2_ref, am_fl2_long, List.not_mem_nil, not_false_eq_true, ne_eq, Nat.reduceAdd, Nat.reduceEqDiff, Nat.zero_add, Nat.add_left_cancel_iff, List.set_cons_zero, List.set_cons_succ, List.length_cons, List.length_nil, Nat.reduceLT, am_ft_i, am_ft_r, am_ft_z, and_true, true_and, Option.toList_some, Option.toList_none, List.cons_append, List.nil_append, List.drop_succ_cons, List.drop_zero, iI_c, iI_b, iI_s, iI_n, iI_add, iI_sub, iI_mul, iI_neg, iI_nle, iI_ix, iI_eq0, iI_eq1, iI_lt0, iI_0lt, iI_le0, iI_0le, iI_eq, iI_lt, iI_le, iI_upd, iI_updZ, Int.reduceEq, Int.reduceLT, Int.reduceLE, Int.reduceNeg, Int.reduceNe, md_fs_len, md_f0, md_f1, md_f2, md_f3, md_f4, md_f5, md_f6, md_f7, md_f8, md_f9, md_f10, md_f11, md_f12, md_f13, md_f14, md_f15, md_f16, md_f17, md_f18, md_f19, md_f20, md_f21, md_f22, md_f23, md_f24, md_f25, md_f26, md_f27, md_f28, md_f29, md_f30, md_f31, md_f32, md_f33, md_f34, md_f35, md_s0, md_s1, md_s15, md_s16, md_s17, md_s23, md_s24, md_s31, md_t1, md_t2, md_t3, md_t4, md_t5, md_t6, md_t7, md_t8, md_t9, md_t10, md_t11, md_t12, md_t13, md_t14, md_t15, md_t16, md_t17, md_t18, md_t19, md_t20, md_t21, md_t22, md_t23, md_t24, md_t25, md_t26, md_t27, md_t28, md_l1, md_l2, md_l3, md_l4, md_l5, md_l6, md_l7, md_l8, md_l9, md_l10, md_l11, md_l12, md_l13, md_l14, md_l15, md_l16, md_l17, md_l18, md_l19, md_l20, md_l21, md_l22, md_l23, md_l24, md_l25, md_l26, md_l27, md_l28]
    exact g.lo (al_le_of (by simp) (by simp))
  have gh := lp_hd (d - 1) h o _ F (se_q h o I F r (s_all I F r)) gl 4096 0 _ (by rw [hd0_0, va_up_same rfl]; exact T0) (Int.le_refl _) (by decide)
  clear gl
  obtain ⟨d, rfl⟩ : ∃ e, d = e + 1 := ⟨d - 1, by omega⟩
  rw [Nat.add_sub_cancel] at gh
  rw [am_put_put] at gh
  refine am_ct_of2 mt_Md_searches (Nat.le_of_ble_eq_true rfl) ?_
  simp only [ar_nil, ar_int, ar_ref, ar_long, Nat.reduceAdd]
  generalize se_q h o I F r (s_all I F r) = Q at *
  refine am_go_of 20 [8, 20, 23, 28, 35, 43, 45, 57, 96, 98, 102, 121] _ c_Md_searches_0 ?_
  simp (maxSteps := 2000000) (disch := omega) only [c_Md_searches_0, c_Md_searches_1, c_Md_searches_2, c_Md_searches_3, c_Md_searches_4, c_Md_searches_5, c_Md_searches_6, c_Md_searches_7, c_Md_searches_8, c_Md_searches_9, c_Md_searches_10, c_Md_searches_11, c_Md_searches_12, c_Md_searches_13, c_Md_searches_14, c_Md_searches_15, c_Md_searches_16, c_Md_searches_17, c_Md_searches_18, c_Md_searches_19, c_Md_searches_20, c_Md_searches_21, c_Md_searches_22, c_Md_searches_23, c_Md_searches_24, c_Md_searches_25, c_Md_searches_26, c_Md_searches_27, c_Md_searches_28, c_Md_searches_29, c_Md_searches_30, c_Md_searches_31, c_Md_searches_32, c_Md_searches_33, c_Md_searches_34, c_Md_searches_35, c_Md_searches_36, c_Md_searches_37, c_Md_searches_38, c_Md_searches_39, c_Md_searches_40, c_Md_searches_41, c_Md_searches_42, c_Md_searches_43, c_Md_searches_44, c_Md_searches_45, c_Md_searches_46, c_Md_searches_47, c_Md_searches_48, c_Md_searches_49, c_Md_searches_50, c_Md_searches_51, c_Md_searches_52, c_Md_searches_53, c_Md_searches_54, c_Md_searches_55, c_Md_searches_56, c_Md_searches_57, c_Md_searches_58, c_Md_searches_59, c_Md_searches_60, c_Md_searches_61, c_Md_searches_62, c_Md_searches_63, c_Md_searches_64, c_Md_searches_65, c_Md_searches_66, c_Md_searches_67, c_Md_searches_68, c_Md_searches_69, c_Md_searches_70, c_Md_searches_71, c_Md_searches_72, c_Md_searches_73, c_Md_searches_74, c_Md_searches_75, c_Md_searches_76, c_Md_searches_77, c_Md_searches_78, c_Md_searches_79, c_Md_searches_80, c_Md_searches_81, c_Md_searches_82, c_Md_searches_83, c_Md_searches_84, c_Md_searches_85, c_Md_searches_86, c_Md_searches_87, c_Md_searches_88, c_Md_searches_89, c_Md_searches_90, c_Md_searches_91, c_Md_searches_92, c_Md_searches_93, c_Md_searches_94, c_Md_searches_95, c_Md_searches_96, c_Md_searches_97, c_Md_searches_98, c_Md_searches_99, c_Md_searches_100, c_Md_searches_101, c_Md_searches_102, c_Md_searches_103, c_Md_searches_104, c_Md_searches_105, c_Md_searches_106, c_Md_searches_107, c_Md_searches_108, c_Md_searches_109, c_Md_searches_110, c_Md_searches_111, c_Md_searches_112, c_Md_searches_113, c_Md_searches_114, c_Md_searches_115, c_Md_searches_116, c_Md_searches_117, c_Md_searches_118, c_Md_searches_119, c_Md_searches_120, c_Md_searches_121, c_Md_searches_122, c_Md_searches_123, c_Md_searches_124, c_Md_searches_125, c_Md_searches_126, c_Md_searches_127, c_Md_searches_128, c_Md_searches_129, sx_aload_n, sx_dup2_ir, sx_getfield, sx_goto, sx_iadd, sx_iaload, sx_iastore, sx_iconst, sx_ifCond_eq, sx_ifCond_ne, sx_if_icmp_eq, sx_if_icmp_ge, sx_if_icmp_lt, sx_if_icmp_ne, sx_iinc, sx_iload, sx_iload_n, sx_ireturn, sx_istore, sx_istore_n, sx_isub, sx_putfield, sx_sipush, sx_zreturn, am_W_s, am_W_0, am_mm_some, List.mem_cons, or_false, false_or, or_self, or_true, true_or, reduceIte, if_false, if_true, am_o_some, am_o_none, am_o_bad, am_o_good, am_ldi_hit, am_ldi_miss, am_lda_hit, am_lda_miss, am_ldl_hit, am_ldl_miss, am_inc_eq, am_inc_hit, am_inc_miss, am_ob_hit, am_fd_0, am_fd_s, am_ai_hit, am_ab_3, am_al_hit, am_aq_4, am_al0_hit, am_put_1, am_put_2, am_put_put, am_up_hit, am_up_miss, am_s1_eq, am_s2_eq, am_fl_nil, am_fl_hit, am_fl_int, am_fl_ref, am_fl_long, am_fl_longx, am_fl2_nil, am_fl2_hit, am_fl2_hit1, am_fl2_int, am_fl2_ref, am_fl2_long, List.not_mem_nil, not_false_eq_true, ne_eq, Nat.reduceAdd, Nat.reduceEqDiff, Nat.zero_add, Nat.add_left_cancel_iff, List.set_cons_zero, List.set_cons_succ, List.length_cons, List.length_nil, Nat.reduceLT, am_ft_i, am_ft_r, am_ft_z, and_true, true_and, Option.toList_some, Option.toList_none, List.cons_append, List.nil_append, List.drop_succ_cons, List.drop_zero, iI_c, iI_b, iI_s, iI_n, iI_add, iI_sub, iI_mul, iI_neg, iI_nle, iI_ix, iI_eq0, iI_eq1, iI_lt0, iI_0lt, iI_le0, iI_0le, iI_eq, iI_lt, iI_le, iI_upd, iI_updZ, Int.reduceEq, Int.reduceLT, Int.reduceLE, Int.reduceNeg, Int.reduceNe, hO, md_fs_len, md_f0, md_f1, md_f2, md_f3, md_f4, md_f5, md_f6, md_f7, md_f8, md_f9, md_f10, md_f11, md_f12, md_f13, md_f14, md_f15, md_f16, md_f17, md_f18, md_f19, md_f20, md_f21, md_f22, md_f23, md_f24, md_f25, md_f26, md_f27, md_f28, md_f29, md_f30, md_f31, md_f32, md_f33, md_f34, md_f35, md_s0, md_s1, md_s15, md_s16, md_s17, md_s23, md_s24, md_s31, md_t1, md_t2, md_t3, md_t4, md_t5, md_t6, md_t7, md_t8, md_t9, md_t10, md_t11, md_t12, md_t13, md_t14, md_t15, md_t16, md_t17, md_t18, md_t19, md_t20, md_t21, md_t22, md_t23, md_t24, md_t25, md_t26, md_t27, md_t28, md_l1, md_l2, md_l3, md_l4, md_l5, md_l6, md_l7, md_l8, md_l9, md_l10, md_l11, md_l12, md_l13, md_l14, md_l15, md_l16, md_l17, md_l18, md_l19, md_l20, md_l21, md_l22, md_l23, md_l24, md_l25, md_l26, md_l27, md_l28]
  exact gh.lo (al_le_of (by simp) (by simp))
theorem ld_vec0 {I : Nat → Int} {F : Nat → Int → Int} {r0 : rn} {J : Nat → Int} {G : Nat → Int → Int} (H : ms_rs I F r0 J G) (j : Nat) : vec r0 j = ldp (G 13) (G 19) 0 0 j := by
  obtain ⟨r, e, ho⟩ := H.2.2.1
  unfold ldp
  by_cases c : (j : Int) < 66
  · rw [if_pos (by omega), show 66 * 0 + (j : Int) = j by omega, H.2.2.2 j (by omega)]
  · rw [if_neg (by omega), e, ox_vec ho (by omega)]
theorem ms_load0 {I : Nat → Int} {F : Nat → Int → Int} {r0 : rn} {J J' : Nat → Int} {G : Nat → Int → Int} (H : ms_rs I F r0 J G) {h0 h1 : am_H} {o : Nat} (T : md_to h0 o J' (va_up G 13 (ldp (G 13) (G 19) 0 0)) h1) : md_to h0 o J' (va_up G 13 (vec r0)) h1 := by
  refine T.cg (fun k k1 k2 j => ?_)
  by_cases c : k = 13
  · rw [c, va_up_hit, va_up_hit]
    exact ld_vec0 H j
  · rw [va_up_miss c, va_up_miss c]
/-- the answers that a search leaves in the reference's rows -/
def ms_an (I : Nat → Int) (F G : Nat → Int → Int) (A : sst) : Prop := (∀ p : Int, 0 ≤ p ∧ p < a_n A → s_par G A p) ∧ ms_oc I F G A
/-- behind a search of the reference: the house and the run are as they were -/
def mh_q (h : am_H) (o : Nat) (I : Nat → Int) (F : Nat → Int → Int) (r : rn) (res : Option sst) (r9 : Option Value) (h' : am_H) : Prop :=
  match res with
  | some A => r9 = some (.int (iI (a_c A))) ∧ ∃ J G, md_to h o J G h' ∧ (∀ k : Nat, k ≠ 5 → k ≠ 6 → k ≠ 7 → J k = I k) ∧ (J 5 = 1 ∧ J 6 = a_n A ∧ J 7 = a_c A) ∧ sf F G ∧ G 13 = vec r ∧ ms_an I F G A ∧ s_iv I F r A
  | none => r9 = some (.int (iI (-4))) ∧ ∃ J G, md_to h o J G h' ∧ (∀ k : Nat, k ≠ 5 → k ≠ 6 → k ≠ 7 → J k = I k) ∧ J 5 = 0 ∧ sf F G ∧ G 13 = vec r
set_option maxHeartbeats 8000000 in
theorem ct_msearch (d : Nat) (hd : 9 ≤ d) (h : am_H) (o : Nat) (I : Nat → Int) (F : Nat → Int → Int) (H : md_at h o I F) (h3 : I 3 = 1) (hr : md_rg I F) (hw : md_wf I F) (h5 : ∀ t : Int, 0 ≤ t ∧ t < 6 → F 5 t = 0 ∨ F 5 t = 1) (r : rn) (hv : rn_iv I F r) (e13 : F 13 = vec r) : am_Ct am_df am_MT d 152 [.ref o] h (mh_q h o I F r (s_all I F r)) := by
  have hO := H.2.1
  have T0 := H.rf.num (I1 := va_up I 3 0)
  have hO0 := T0.1.2.1
  obtain ⟨d, rfl⟩ : ∃ e, d = e + 1 := ⟨d - 1, by omega⟩
  refine am_ct_of2 mt_Md_search (Nat.le_of_ble_eq_true rfl) ?_
  simp only [ar_nil, ar_int, ar_ref, ar_long, Nat.reduceAdd]
  have CS := ct_searches d (by omega) _ o I (va_up I 3 0) F T0.1 (fun _ _ _ => rfl) hr hw h5 r hv e13
  have hc : 0 ≤ 0 := Nat.le_refl _
  refine am_go_of 5 [4, 8] _ c_Md_search_0 ?_
  simp (maxSteps := 2000000) (disch := omega) only [c_Md_search_0, c_Md_search_1, c_Md_search_2, c_Md_search_3, c_Md_search_4, c_Md_search_5, c_Md_search_6, c_Md_search_7, c_Md_search_8, c_Md_search_9, c_Md_search_10, c_Md_search_11, c_Md_search_12, c_Md_search_13, c_Md_search_14, c_Md_search_15, c_Md_search_16, c_Md_search_17, c_Md_search_18, c_Md_search_19, c_Md_search_20, c_Md_search_21, sx_aload_n, sx_bipush, sx_getfield, sx_goto, sx_iconst, sx_ifCond_eq, sx_iload_n, sx_ireturn, sx_istore_n, sx_putfield, sx_zreturn, am_W_s, am_W_0, am_mm_some, List.mem_cons, or_false, false_or, or_self, or_true, true_or, reduceIte, if_false, if_true, am_o_some, am_o_none, am_o_bad, am_o_good, am_ldi_hit, am_ldi_miss, am_lda_hit, am_lda_miss, am_ldl_hit, am_ldl_miss, am_inc_eq, am_inc_hit, am_inc_miss, am_ob_hit, am_fd_0, am_fd_s, am_ai_hit, am_ab_3, am_al_hit, am_aq_4, am_al0_hit, am_put_1, am_put_2, am_put_put, am_up_hit, am_up_miss, am_s1_eq, am_s2_eq, am_fl_nil, am_fl_hit, am_fl_int, am_fl_ref, am_fl_long, am_fl_longx, am_fl2_nil, am_fl2_hit, am_fl2_hit1, am_fl2_int, am_fl2_ref, am_fl2_long, List.not_mem_nil, not_false_eq_true, ne_eq, Nat.reduceAdd, Nat.reduceEqDiff, Nat.zero_add, Nat.add_left_cancel_iff, List.set_cons_zero, List.set_cons_succ, List.length_cons, List.length_nil, Nat.reduceLT, am_ft_i, am_ft_r, am_ft_z, and_true, true_and, Option.toList_some, Option.toList_none, List.cons_append, List.nil_append, List.drop_succ_cons, List.drop_zero, iI_c, iI_b, iI_s, iI_n, iI_add, iI_sub, iI_mul, iI_neg, iI_nle, iI_ix, iI_eq0, iI_eq1, iI_lt0, iI_0lt, iI_le0, iI_0le, iI_eq, iI_lt, iI_le, iI_upd, iI_updZ, Int.reduceEq, Int.reduceLT, Int.reduceLE, Int.reduceNeg, Int.reduceNe, hO, md_fs_len, md_f0, md_f1, md_f2, md_f3, md_f4, md_f5, md_f6, md_f7, md_f8, md_f9, md_f10, md_f11, md_f12, md_f13, md_f14, md_f15, md_f16, md_f17, md_f18, md_f19, md_f20, md_f21, md_f22, md_f23, md_f24, md_f25, md_f26, md_f27, md_f28, md_f29, md_f30, md_f31, md_f32, md_f33, md_f34, md_f35, md_s0, md_s1, md_s15, md_s16, md_s17, md_s23, md_s24, md_s31, md_t1, md_t2, md_t3, md_t4, md_t5, md_t6, md_t7, md_t8, md_t9, md_t10, md_t11, md_t12, md_t13, md_t14, md_t15, md_t16, md_t17, md_t18, md_t19, md_t20, md_t21, md_t22, md_t23, md_t24, md_t25, md_t26, md_t27, md_t28, md_l1, md_l2, md_l3, md_l4, md_l5, md_l6, md_l7, md_l8, md_l9, md_l10, md_l11, md_l12, md_l13, md_l14, md_l15, md_l16, md_l17, md_l18, md_l19, md_l20, md_l21, md_l22, md_l23, md_l24, md_l25, md_l26, md_l27, md_l28]
  refine am_go_call c_Md_search_4 (by decide) (by decide) (by first | (simp [am_can, am_kd, Value.category, hO0, hO]; done) | (simp [am_can, am_kd, am_b, am_c, Value.category, hO0, hO]; done) | (simp (disch := omega) [am_can, am_kd, am_b, am_c, Value.category, am_put_1, am_up_hit, am_up_miss, hO0, hO]; done)) ?_
  refine CS.mono (fun r9 h1 hr9 => ?_)
  clear CS
  cases hA : s_all I F r with
  | some A =>
    rw [hA] at hr9
    obtain ⟨rfl, J, G, T1, M1, SI, n1⟩ := hr9
    have hcc := SI.2.1
    have R1 := M1.rs SI n1
    have T1' := T0.tr T1
    have hO1 := T1.1.2.1
    have CL := ct_load d (by omega) h1 o J G T1.1 0 (by decide)
    refine am_go_of 5 [4, 8] _ c_Md_search_5 ?_
    simp (maxSteps := 2000000) (disch := omega) only [c_Md_search_0, c_Md_search_1, c_Md_search_2, c_Md_search_3, c_Md_search_4, c_Md_search_5, c_Md_search_6, c_Md_search_7, c_Md_search_8, c_Md_search_9, c_Md_search_10, c_Md_search_11, c_Md_search_12, c_Md_search_13, c_Md_search_14, c_Md_search_15, c_Md_search_16, c_Md_search_17, c_Md_search_18, c_Md_search_19, c_Md_search_20, c_Md_search_21, sx_aload_n, sx_bipush, sx_getfield, sx_goto, sx_iconst, sx_ifCond_eq, sx_iload_n, sx_ireturn, sx_istore_n, sx_putfield, sx_zreturn, am_W_s, am_W_0, am_mm_some, List.mem_cons, or_false, false_or, or_self, or_true, true_or, reduceIte, if_false, if_true, am_o_some, am_o_none, am_o_bad, am_o_good, am_ldi_hit, am_ldi_miss, am_lda_hit, am_lda_miss, am_ldl_hit, am_ldl_miss, am_inc_eq, am_inc_hit, am_inc_miss, am_ob_hit, am_fd_0, am_fd_s, am_ai_hit, am_ab_3, am_al_hit, am_aq_4, am_al0_hit, am_put_1, am_put_2, am_put_put, am_up_hit, am_up_miss, am_s1_eq, am_s2_eq, am_fl_nil, am_fl_hit, am_fl_int, am_fl_ref, am_fl_long, am_fl_longx, am_fl2_nil, am_fl2_hit, am_fl2_hit1, am_fl2_int, am_fl2_ref, am_fl2_long, List.not_mem_nil, not_false_eq_true, ne_eq, Nat.reduceAdd, Nat.reduceEqDiff, Nat.zero_add, Nat.add_left_cancel_iff, List.set_cons_zero, List.set_cons_succ, List.length_cons, List.length_nil, Nat.reduceLT, am_ft_i, am_ft_r, am_ft_z, and_true, true_and, Option.toList_some, Option.toList_none, List.cons_append, List.nil_append, List.drop_succ_cons, List.drop_zero, iI_c, iI_b, iI_s, iI_n, iI_add, iI_sub, iI_mul, iI_neg, iI_nle, iI_ix, iI_eq0, iI_eq1, iI_lt0, iI_0lt, iI_le0, iI_0le, iI_eq, iI_lt, iI_le, iI_upd, iI_updZ, Int.reduceEq, Int.reduceLT, Int.reduceLE, Int.reduceNeg, Int.reduceNe, md_fs_len, md_f0, md_f1, md_f2, md_f3, md_f4, md_f5, md_f6, md_f7, md_f8, md_f9, md_f10, md_f11, md_f12, md_f13, md_f14, md_f15, md_f16, md_f17, md_f18, md_f19, md_f20, md_f21, md_f22, md_f23, md_f24, md_f25, md_f26, md_f27, md_f28, md_f29, md_f30, md_f31, md_f32, md_f33, md_f34, md_f35, md_s0, md_s1, md_s15, md_s16, md_s17, md_s23, md_s24, md_s31, md_t1, md_t2, md_t3, md_t4, md_t5, md_t6, md_t7, md_t8, md_t9, md_t10, md_t11, md_t12, md_t13, md_t14, md_t15, md_t16, md_t17, md_t18, md_t19, md_t20, md_t21, md_t22, md_t23, md_t24, md_t25, md_t26, md_t27, md_t28, md_l1, md_l2, md_l3, md_l4, md_l5, md_l6, md_l7, md_l8, md_l9, md_l10, md_l11, md_l12, md_l13, md_l14, md_l15, md_l16, md_l17, md_l18, md_l19, md_l20, md_l21, md_l22, md_l23, md_l24, md_l25, md_l26, md_l27, md_l28]
    refine am_go_call c_Md_search_8 (by decide) (by decide) (by first | (simp [am_can, am_kd, Value.category, hO1]; done) | (simp [am_can, am_kd, am_b, am_c, Value.category, hO1]; done) | (simp (disch := omega) [am_can, am_kd, am_b, am_c, Value.category, am_put_1, am_up_hit, am_up_miss, hO1]; done)) ?_
    refine CL.mono (fun r9 h2 hr9 => ?_)
    obtain ⟨rfl, w2⟩ := hr9
    have T2 := ms_load0 R1 (T1'.tr w2)
    have hO2 := T2.1.2.1
    have T3 := (T2.num (I1 := va_up J 3 1)).num (I1 := va_up (va_up J 3 1) 5 1)
    rw [am_put_put] at T3
    have gg : mh_q h o I F r (some A) (some (.int (iI (a_c A)))) (am_put h2 o (.inr (8, md_fs o (va_up (va_up J 3 1) 5 1)))) := by
      refine ⟨rfl, _, _, T3, fun k k5 k6 k7 => ?_, ⟨va_up_hit, ?_, ?_⟩, R1.2.1.up (Or.inr rfl), va_up_hit, ⟨fun p hp => ?_, fun i hi => ?_⟩, SI⟩
      · rw [va_up_miss k5]
        by_cases c : k = 3
        · rw [c, va_up_hit]
          exact h3.symm
        · rw [va_up_miss c, M1.1 k k6 k7, va_up_miss c]
      · rw [va_up_miss (by decide), va_up_miss (by decide)]
        exact M1.2.1.1
      · rw [va_up_miss (by decide), va_up_miss (by decide)]
        exact M1.2.1.2
      · have z := M1.2.2.2.2.2.2.1 p hp
        unfold s_par at *
        rw [va_up_miss (by decide), va_up_miss (by decide)]
        exact z
      · have z := M1.2.2.2.2.2.2.2 i hi
        rw [va_up_miss (by decide), va_up_miss (by decide), va_up_miss (by decide)]
        exact z
    have e7 : va_up (va_up J 3 1) 5 1 7 = a_c A := by
      rw [va_up_miss (by decide), va_up_miss (by decide)]
      exact M1.2.1.2
    have j7 := M1.2.1.2
    clear T3 T2 w2 CL M1 R1 T1' T1 T0
    generalize mh_q h o I F r (some A) = Q at *
    refine am_go_of 30 [4, 8] _ c_Md_search_9 ?_
    simp (maxSteps := 2000000) (disch := omega) only [c_Md_search_0, c_Md_search_1, c_Md_search_2, c_Md_search_3, c_Md_search_4, c_Md_search_5, c_Md_search_6, c_Md_search_7, c_Md_search_8, c_Md_search_9, c_Md_search_10, c_Md_search_11, c_Md_search_12, c_Md_search_13, c_Md_search_14, c_Md_search_15, c_Md_search_16, c_Md_search_17, c_Md_search_18, c_Md_search_19, c_Md_search_20, c_Md_search_21, sx_aload_n, sx_bipush, sx_getfield, sx_goto, sx_iconst, sx_ifCond_eq, sx_iload_n, sx_ireturn, sx_istore_n, sx_putfield, sx_zreturn, am_W_s, am_W_0, am_mm_some, List.mem_cons, or_false, false_or, or_self, or_true, true_or, reduceIte, if_false, if_true, am_o_some, am_o_none, am_o_bad, am_o_good, am_ldi_hit, am_ldi_miss, am_lda_hit, am_lda_miss, am_ldl_hit, am_ldl_miss, am_inc_eq, am_inc_hit, am_inc_miss, am_ob_hit, am_fd_0, am_fd_s, am_ai_hit, am_ab_3, am_al_hit, am_aq_4, am_al0_hit, am_put_1, am_put_2, am_put_put, am_up_hit, am_up_miss, am_s1_eq, am_s2_eq, am_fl_nil, am_fl_hit, am_fl_int, am_fl_ref, am_fl_long, am_fl_longx, am_fl2_nil, am_fl2_hit, am_fl2_hit1, am_fl2_int, am_fl2_ref, am_fl2_long, List.not_mem_nil, not_false_eq_true, ne_eq, Nat.reduceAdd, Nat.reduceEqDiff, Nat.zero_add, Nat.add_left_cancel_iff, List.set_cons_zero, List.set_cons_succ, List.length_cons, List.length_nil, Nat.reduceLT, am_ft_i, am_ft_r, am_ft_z, and_true, true_and, Option.toList_some, Option.toList_none, List.cons_append, List.nil_append, List.drop_succ_cons, List.drop_zero, iI_c, iI_b, iI_s, iI_n, iI_add, iI_sub, iI_mul, iI_neg, iI_nle, iI_ix, iI_eq0, iI_eq1, iI_lt0, iI_0lt, iI_le0, iI_0le, iI_eq, iI_lt, iI_le, iI_upd, iI_updZ, Int.reduceEq, Int.reduceLT, Int.reduceLE, Int.reduceNeg, Int.reduceNe, hO2, e7, j7, md_fs_len, md_f0, md_f1, md_f2, md_f3, md_f4, md_f5, md_f6, md_f7, md_f8, md_f9, md_f10, md_f11, md_f12, md_f13, md_f14, md_f15, md_f16, md_f17, md_f18, md_f19, md_f20, md_f21, md_f22, md_f23, md_f24, md_f25, md_f26, md_f27, md_f28, md_f29, md_f30, md_f31, md_f32, md_f33, md_f34, md_f35, md_s0, md_s1, md_s15, md_s16, md_s17, md_s23, md_s24, md_s31, md_t1, md_t2, md_t3, md_t4, md_t5, md_t6, md_t7, md_t8, md_t9, md_t10, md_t11, md_t12, md_t13, md_t14, md_t15, md_t16, md_t17, md_t18, md_t19, md_t20, md_t21, md_t22, md_t23, md_t24, md_t25, md_t26, md_t27, md_t28, md_l1, md_l2, md_l3, md_l4, md_l5, md_l6, md_l7, md_l8, md_l9, md_l10, md_l11, md_l12, md_l13, md_l14, md_l15, md_l16, md_l17, md_l18, md_l19, md_l20, md_l21, md_l22, md_l23, md_l24, md_l25, md_l26, md_l27, md_l28]
    exact gg
  | none =>
    rw [hA] at hr9
    obtain ⟨rfl, J, G, T1, R1⟩ := hr9
    have T1' := T0.tr T1
    have hO1 := T1.1.2.1
    have CL := ct_load d (by omega) h1 o J G T1.1 0 (by decide)
    refine am_go_of 5 [4, 8] _ c_Md_search_5 ?_
    simp (maxSteps := 2000000) (disch := omega) only [c_Md_search_0, c_Md_search_1, c_Md_search_2, c_Md_search_3, c_Md_search_4, c_Md_search_5, c_Md_search_6, c_Md_search_7, c_Md_search_8, c_Md_search_9, c_Md_search_10, c_Md_search_11, c_Md_search_12, c_Md_search_13, c_Md_search_14, c_Md_search_15, c_Md_search_16, c_Md_search_17, c_Md_search_18, c_Md_search_19, c_Md_search_20, c_Md_search_21, sx_aload_n, sx_bipush, sx_getfield, sx_goto, sx_iconst, sx_ifCond_eq, sx_iload_n, sx_ireturn, sx_istore_n, sx_putfield, sx_zreturn, am_W_s, am_W_0, am_mm_some, List.mem_cons, or_false, false_or, or_self, or_true, true_or, reduceIte, if_false, if_true, am_o_some, am_o_none, am_o_bad, am_o_good, am_ldi_hit, am_ldi_miss, am_lda_hit, am_lda_miss, am_ldl_hit, am_ldl_miss, am_inc_eq, am_inc_hit, am_inc_miss, am_ob_hit, am_fd_0, am_fd_s, am_ai_hit, am_ab_3, am_al_hit, am_aq_4, am_al0_hit, am_put_1, am_put_2, am_put_put, am_up_hit, am_up_miss, am_s1_eq, am_s2_eq, am_fl_nil, am_fl_hit, am_fl_int, am_fl_ref, am_fl_long, am_fl_longx, am_fl2_nil, am_fl2_hit, am_fl2_hit1, am_fl2_int, am_fl2_ref, am_fl2_long, List.not_mem_nil, not_false_eq_true, ne_eq, Nat.reduceAdd, Nat.reduceEqDiff, Nat.zero_add, Nat.add_left_cancel_iff, List.set_cons_zero, List.set_cons_succ, List.length_cons, List.length_nil, Nat.reduceLT, am_ft_i, am_ft_r, am_ft_z, and_true, true_and, Option.toList_some, Option.toList_none, List.cons_append, List.nil_append, List.drop_succ_cons, List.drop_zero, iI_c, iI_b, iI_s, iI_n, iI_add, iI_sub, iI_mul, iI_neg, iI_nle, iI_ix, iI_eq0, iI_eq1, iI_lt0, iI_0lt, iI_le0, iI_0le, iI_eq, iI_lt, iI_le, iI_upd, iI_updZ, Int.reduceEq, Int.reduceLT, Int.reduceLE, Int.reduceNeg, Int.reduceNe, md_fs_len, md_f0, md_f1, md_f2, md_f3, md_f4, md_f5, md_f6, md_f7, md_f8, md_f9, md_f10, md_f11, md_f12, md_f13, md_f14, md_f15, md_f16, md_f17, md_f18, md_f19, md_f20, md_f21, md_f22, md_f23, md_f24, md_f25, md_f26, md_f27, md_f28, md_f29, md_f30, md_f31, md_f32, md_f33, md_f34, md_f35, md_s0, md_s1, md_s15, md_s16, md_s17, md_s23, md_s24, md_s31, md_t1, md_t2, md_t3, md_t4, md_t5, md_t6, md_t7, md_t8, md_t9, md_t10, md_t11, md_t12, md_t13, md_t14, md_t15, md_t16, md_t17, md_t18, md_t19, md_t20, md_t21, md_t22, md_t23, md_t24, md_t25, md_t26, md_t27, md_t28, md_l1, md_l2, md_l3, md_l4, md_l5, md_l6, md_l7, md_l8, md_l9, md_l10, md_l11, md_l12, md_l13, md_l14, md_l15, md_l16, md_l17, md_l18, md_l19, md_l20, md_l21, md_l22, md_l23, md_l24, md_l25, md_l26, md_l27, md_l28]
    refine am_go_call c_Md_search_8 (by decide) (by decide) (by first | (simp [am_can, am_kd, Value.category, hO1]; done) | (simp [am_can, am_kd, am_b, am_c, Value.category, hO1]; done) | (simp (disch := omega) [am_can, am_kd, am_b, am_c, Value.category, am_put_1, am_up_hit, am_up_miss, hO1]; done)) ?_
    refine CL.mono (fun r9 h2 hr9 => ?_)
    obtain ⟨rfl, w2⟩ := hr9
    have T2 := ms_load0 R1 (T1'.tr w2)
    have hO2 := T2.1.2.1
    have T3 := (T2.num (I1 := va_up J 3 1)).num (I1 := va_up (va_up J 3 1) 5 0)
    rw [am_put_put] at T3
    have gg : mh_q h o I F r none (some (.int (iI (-4)))) (am_put h2 o (.inr (8, md_fs o (va_up (va_up J 3 1) 5 0)))) := by
      refine ⟨rfl, _, _, T3, fun k k5 k6 k7 => ?_, va_up_hit, R1.2.1.up (Or.inr rfl), va_up_hit⟩
      rw [va_up_miss k5]
      by_cases c : k = 3
      · rw [c, va_up_hit]
        exact h3.symm
      · rw [va_up_miss c, R1.1 k k6 k7, va_up_miss c]
    clear T3 T2 w2 CL R1 T1' T1 T0
    generalize mh_q h o I F r none = Q at *
    refine am_go_of 30 [4, 8] _ c_Md_search_9 ?_
    simp (maxSteps := 2000000) (disch := omega) only [c_Md_search_0, c_Md_search_1, c_Md_search_2, c_Md_search_3, c_Md_search_4, c_Md_search_5, c_Md_search_6, c_Md_search_7, c_Md_search_8, c_Md_search_9, c_Md_search_10, c_Md_search_11, c_Md_search_12, c_Md_search_13, c_Md_search_14, c_Md_search_15, c_Md_search_16, c_Md_search_17, c_Md_search_18, c_Md_search_19, c_Md_search_20, c_Md_search_21, sx_aload_n, sx_bipush, sx_getfield, sx_goto, sx_iconst, sx_ifCond_eq, sx_iload_n, sx_ireturn, sx_istore_n, sx_putfield, sx_zreturn, am_W_s, am_W_0, am_mm_some, List.mem_cons, or_false, false_or, or_self, or_true, true_or, reduceIte, if_false, if_true, am_o_some, am_o_none, am_o_bad, am_o_good, am_ldi_hit, am_ldi_miss, am_lda_hit, am_lda_miss, am_ldl_hit, am_ldl_miss, am_inc_eq, am_inc_hit, am_inc_miss, am_ob_hit, am_fd_0, am_fd_s, am_ai_hit, am_ab_3, am_al_hit, am_aq_4, am_al0_hit, am_put_1, am_put_2, am_put_put, am_up_hit, am_up_miss, am_s1_eq, am_s2_eq, am_fl_nil, am_fl_hit, am_fl_int, am_fl_ref, am_fl_long, am_fl_longx, am_fl2_nil, am_fl2_hit, am_fl2_hit1, am_fl2_int, am_fl2_ref, am_fl2_long, List.not_mem_nil, not_false_eq_true, ne_eq, Nat.reduceAdd, Nat.reduceEqDiff, Nat.zero_add, Nat.add_left_cancel_iff, List.set_cons_zero, List.set_cons_succ, List.length_cons, List.length_nil, Nat.reduceLT, am_ft_i, am_ft_r, am_ft_z, and_true, true_and, Option.toList_some, Option.toList_none, List.cons_append, List.nil_append, List.drop_succ_cons, List.drop_zero, iI_c, iI_b, iI_s, iI_n, iI_add, iI_sub, iI_mul, iI_neg, iI_nle, iI_ix, iI_eq0, iI_eq1, iI_lt0, iI_0lt, iI_le0, iI_0le, iI_eq, iI_lt, iI_le, iI_upd, iI_updZ, Int.reduceEq, Int.reduceLT, Int.reduceLE, Int.reduceNeg, Int.reduceNe, hO2, md_fs_len, md_f0, md_f1, md_f2, md_f3, md_f4, md_f5, md_f6, md_f7, md_f8, md_f9, md_f10, md_f11, md_f12, md_f13, md_f14, md_f15, md_f16, md_f17, md_f18, md_f19, md_f20, md_f21, md_f22, md_f23, md_f24, md_f25, md_f26, md_f27, md_f28, md_f29, md_f30, md_f31, md_f32, md_f33, md_f34, md_f35, md_s0, md_s1, md_s15, md_s16, md_s17, md_s23, md_s24, md_s31, md_t1, md_t2, md_t3, md_t4, md_t5, md_t6, md_t7, md_t8, md_t9, md_t10, md_t11, md_t12, md_t13, md_t14, md_t15, md_t16, md_t17, md_t18, md_t19, md_t20, md_t21, md_t22, md_t23, md_t24, md_t25, md_t26, md_t27, md_t28, md_l1, md_l2, md_l3, md_l4, md_l5, md_l6, md_l7, md_l8, md_l9, md_l10, md_l11, md_l12, md_l13, md_l14, md_l15, md_l16, md_l17, md_l18, md_l19, md_l20, md_l21, md_l22, md_l23, md_l24, md_l25, md_l26, md_l27, md_l28]
    exact gg
/-- all that holds between calls holds in a house whose rows of a search alone are others -/
theorem md_all_sf {I J : Nat → Int} {F G : Nat → Int → Int} {r : rn} (h : md_all I F r) (hJ : ∀ k : Nat, k ≠ 5 → k ≠ 6 → k ≠ 7 → J k = I k) (h5 : J 5 = 0 ∨ J 5 = 1) (hs : sf F G) (e13 : G 13 = vec r) : md_all J G r := by
  obtain ⟨⟨o1, o2, o3, o4, o5⟩, hh, hd, hl, hb, h3, -⟩ := h
  have j0 := hJ 0 (by decide) (by decide) (by decide)
  have j1 := hJ 1 (by decide) (by decide) (by decide)
  have j3 := hJ 3 (by decide) (by decide) (by decide)
  have j4 := hJ 4 (by decide) (by decide) (by decide)
  have g1 := hs 1 (by decide) (by decide) (by decide)
  have g2 := hs 2 (by decide) (by decide) (by decide)
  have g3 := hs 3 (by decide) (by decide) (by decide)
  have g4 := hs 4 (by decide) (by decide) (by decide)
  have g5 := hs 5 (by decide) (by decide) (by decide)
  have g6 := hs 6 (by decide) (by decide) (by decide)
  have g7 := hs 7 (by decide) (by decide) (by decide)
  have g8 := hs 8 (by decide) (by decide) (by decide)
  have g9 := hs 9 (by decide) (by decide) (by decide)
  have g10 := hs 10 (by decide) (by decide) (by decide)
  have g15 := hs 15 (by decide) (by decide) (by decide)
  have g16 := hs 16 (by decide) (by decide) (by decide)
  have g17 := hs 17 (by decide) (by decide) (by decide)
  have et : ∀ n : Nat, tbl G n = tbl F n := fun n => tbl_congr n (fun x hx => by
    rw [g1, g2, g3, g4]
    exact ⟨rfl, rfl, rfl, fun _ _ => rfl⟩)
  have eo : ∀ n : Nat, otb G n = otb F n := fun n => otb_congr n (fun x hx => by
    rw [g5, g2, g3, g4]
    exact ⟨rfl, rfl, rfl, fun _ _ => rfl⟩)
  refine ⟨⟨e13, hs.rg o2 j0 j1, hs.wf o3 j0 j1, hs.iv o4 j0 j1, ?_⟩, ?_, ?_, ?_, ?_, j3.trans h3, h5⟩
  · unfold lg_ok at *
    rw [j3, j4]
    exact o5
  · unfold md_hs at *
    rw [j0, g1, g2, g3, g4, g5]
    exact hh
  · unfold md_hd at *
    rw [j0, et, eo, g17]
    refine ⟨fun x hx => ?_, hd.2⟩
    have z := hd.1 x hx
    unfold rl_x at *
    rw [g1, g6, g7, g15, g16]
    exact z
  · unfold rl_rg at *
    rw [g6, g7, g15, g16]
    exact hl
  · unfold md_bd at *
    rw [j0, j1, g8, g9, g10]
    exact hb
