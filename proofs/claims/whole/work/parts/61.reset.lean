theorem mt_Arrays_fillII : am_MT[22]? = some m_Arrays_fillII := rfl
theorem c_Arrays_fillII_0 : c_Arrays_fillII[0]? = some (0, 1, .iconst 0, 0, 0, 0, 0, 0, []) := Eq.trans rfl rfl
theorem c_Arrays_fillII_1 : c_Arrays_fillII[1]? = some (1, 1, .istore_n 2, 2, 0, 0, 0, 0, []) := Eq.trans rfl rfl
theorem c_Arrays_fillII_2 : c_Arrays_fillII[2]? = some (2, 1, .aload_n 0, 0, 0, 0, 0, 0, []) := Eq.trans rfl rfl
theorem c_Arrays_fillII_3 : c_Arrays_fillII[3]? = some (3, 1, .arraylength, 0, 0, 0, 0, 0, []) := Eq.trans rfl rfl
theorem c_Arrays_fillII_4 : c_Arrays_fillII[4]? = some (4, 1, .istore_n 3, 3, 0, 0, 0, 0, []) := Eq.trans rfl rfl
theorem c_Arrays_fillII_5 : c_Arrays_fillII[5]? = some (5, 1, .iload_n 2, 2, 0, 0, 0, 0, []) := Eq.trans rfl rfl
theorem c_Arrays_fillII_6 : c_Arrays_fillII[6]? = some (6, 1, .iload_n 3, 3, 0, 0, 0, 0, []) := Eq.trans rfl rfl
theorem c_Arrays_fillII_7 : c_Arrays_fillII[7]? = some (7, 3, .if_icmp .ge 13, 14, 0, 0, 0, 0, []) := Eq.trans rfl rfl
theorem c_Arrays_fillII_8 : c_Arrays_fillII[8]? = some (10, 1, .aload_n 0, 0, 0, 0, 0, 0, []) := Eq.trans rfl rfl
theorem c_Arrays_fillII_9 : c_Arrays_fillII[9]? = some (11, 1, .iload_n 2, 2, 0, 0, 0, 0, []) := Eq.trans rfl rfl
theorem c_Arrays_fillII_10 : c_Arrays_fillII[10]? = some (12, 1, .iload_n 1, 1, 0, 0, 0, 0, []) := Eq.trans rfl rfl
theorem c_Arrays_fillII_11 : c_Arrays_fillII[11]? = some (13, 1, .iastore, 0, 0, 0, 0, 0, []) := Eq.trans rfl rfl
theorem c_Arrays_fillII_12 : c_Arrays_fillII[12]? = some (14, 3, .iinc 2 1, 0, 0, 0, 0, 0, []) := Eq.trans rfl rfl
theorem c_Arrays_fillII_13 : c_Arrays_fillII[13]? = some (17, 3, .goto (-12), 5, 0, 0, 0, 0, []) := Eq.trans rfl rfl
theorem c_Arrays_fillII_14 : c_Arrays_fillII[14]? = some (20, 1, .return_, 0, 0, 0, 0, 0, []) := Eq.trans rfl rfl
theorem mt_Log_empty : am_MT[21]? = some m_Log_empty := rfl
theorem c_Log_empty_0 : c_Log_empty[0]? = some (0, 1, .aload_n 0, 0, 0, 0, 0, 0, []) := Eq.trans rfl rfl
theorem c_Log_empty_1 : c_Log_empty[1]? = some (1, 1, .iconst 0, 0, 0, 0, 0, 0, []) := Eq.trans rfl rfl
theorem c_Log_empty_2 : c_Log_empty[2]? = some (2, 3, .putfield 9, 4, 0, 0, 0, 191, []) := Eq.trans rfl rfl
theorem c_Log_empty_3 : c_Log_empty[3]? = some (5, 1, .return_, 0, 0, 0, 0, 0, []) := Eq.trans rfl rfl
theorem mt_Run_reset : am_MT[20]? = some m_Run_reset := rfl
theorem c_Run_reset_0 : c_Run_reset[0]? = some (0, 1, .aload_n 0, 0, 0, 0, 0, 0, []) := Eq.trans rfl rfl
theorem c_Run_reset_1 : c_Run_reset[1]? = some (1, 1, .iconst 0, 0, 0, 0, 0, 0, []) := Eq.trans rfl rfl
theorem c_Run_reset_2 : c_Run_reset[2]? = some (2, 3, .putfield 9, 3, 0, 0, 0, 199, []) := Eq.trans rfl rfl
theorem c_Run_reset_3 : c_Run_reset[3]? = some (5, 1, .aload_n 0, 0, 0, 0, 0, 0, []) := Eq.trans rfl rfl
theorem c_Run_reset_4 : c_Run_reset[4]? = some (6, 3, .getfield 18, 3, 1, 0, 0, 201, []) := Eq.trans rfl rfl
theorem c_Run_reset_5 : c_Run_reset[5]? = some (9, 3, .invokevirtual 64, 21, 1, 4, 0, 393, []) := Eq.trans rfl rfl
theorem c_Run_reset_6 : c_Run_reset[6]? = some (12, 1, .aload_n 0, 0, 0, 0, 0, 0, []) := Eq.trans rfl rfl
theorem c_Run_reset_7 : c_Run_reset[7]? = some (13, 3, .getfield 29, 3, 4, 0, 0, 207, []) := Eq.trans rfl rfl
theorem c_Run_reset_8 : c_Run_reset[8]? = some (16, 1, .iconst 0, 0, 0, 0, 0, 0, []) := Eq.trans rfl rfl
theorem c_Run_reset_9 : c_Run_reset[9]? = some (17, 3, .invokestatic 67, 22, 2, 0, 0, 397, []) := Eq.trans rfl rfl
theorem c_Run_reset_10 : c_Run_reset[10]? = some (20, 1, .aload_n 0, 0, 0, 0, 0, 0, []) := Eq.trans rfl rfl
theorem c_Run_reset_11 : c_Run_reset[11]? = some (21, 3, .getfield 37, 3, 6, 0, 0, 211, []) := Eq.trans rfl rfl
theorem c_Run_reset_12 : c_Run_reset[12]? = some (24, 1, .iconst 0, 0, 0, 0, 0, 0, []) := Eq.trans rfl rfl
theorem c_Run_reset_13 : c_Run_reset[13]? = some (25, 3, .invokestatic 67, 22, 2, 0, 0, 397, []) := Eq.trans rfl rfl
theorem c_Run_reset_14 : c_Run_reset[14]? = some (28, 1, .aload_n 0, 0, 0, 0, 0, 0, []) := Eq.trans rfl rfl
theorem c_Run_reset_15 : c_Run_reset[15]? = some (29, 3, .getfield 53, 3, 13, 0, 0, 219, []) := Eq.trans rfl rfl
theorem c_Run_reset_16 : c_Run_reset[16]? = some (32, 1, .iconst 0, 0, 0, 0, 0, 0, []) := Eq.trans rfl rfl
theorem c_Run_reset_17 : c_Run_reset[17]? = some (33, 3, .invokestatic 67, 22, 2, 0, 0, 397, []) := Eq.trans rfl rfl
theorem c_Run_reset_18 : c_Run_reset[18]? = some (36, 1, .aload_n 0, 0, 0, 0, 0, 0, []) := Eq.trans rfl rfl
theorem c_Run_reset_19 : c_Run_reset[19]? = some (37, 3, .getfield 47, 3, 11, 0, 0, 217, []) := Eq.trans rfl rfl
theorem c_Run_reset_20 : c_Run_reset[20]? = some (40, 1, .iconst 0, 0, 0, 0, 0, 0, []) := Eq.trans rfl rfl
theorem c_Run_reset_21 : c_Run_reset[21]? = some (41, 3, .invokestatic 67, 22, 2, 0, 0, 397, []) := Eq.trans rfl rfl
theorem c_Run_reset_22 : c_Run_reset[22]? = some (44, 1, .aload_n 0, 0, 0, 0, 0, 0, []) := Eq.trans rfl rfl
theorem c_Run_reset_23 : c_Run_reset[23]? = some (45, 3, .getfield 50, 3, 12, 0, 0, 218, []) := Eq.trans rfl rfl
theorem c_Run_reset_24 : c_Run_reset[24]? = some (48, 1, .iconst 0, 0, 0, 0, 0, 0, []) := Eq.trans rfl rfl
theorem c_Run_reset_25 : c_Run_reset[25]? = some (49, 3, .invokestatic 67, 22, 2, 0, 0, 397, []) := Eq.trans rfl rfl
theorem c_Run_reset_26 : c_Run_reset[26]? = some (52, 1, .iconst 0, 0, 0, 0, 0, 0, []) := Eq.trans rfl rfl
theorem c_Run_reset_27 : c_Run_reset[27]? = some (53, 1, .istore_n 1, 1, 0, 0, 0, 0, []) := Eq.trans rfl rfl
theorem c_Run_reset_28 : c_Run_reset[28]? = some (54, 1, .iload_n 1, 1, 0, 0, 0, 0, []) := Eq.trans rfl rfl
theorem c_Run_reset_29 : c_Run_reset[29]? = some (55, 2, .bipush 6, 0, 0, 0, 0, 0, []) := Eq.trans rfl rfl
theorem c_Run_reset_30 : c_Run_reset[30]? = some (57, 3, .if_icmp .ge 15, 37, 0, 0, 0, 0, []) := Eq.trans rfl rfl
theorem c_Run_reset_31 : c_Run_reset[31]? = some (60, 1, .aload_n 0, 0, 0, 0, 0, 0, []) := Eq.trans rfl rfl
theorem c_Run_reset_32 : c_Run_reset[32]? = some (61, 1, .iload_n 1, 1, 0, 0, 0, 0, []) := Eq.trans rfl rfl
theorem c_Run_reset_33 : c_Run_reset[33]? = some (62, 1, .iconst 0, 0, 0, 0, 0, 0, []) := Eq.trans rfl rfl
theorem c_Run_reset_34 : c_Run_reset[34]? = some (63, 3, .invokevirtual 73, 23, 3, 3, 0, 400, []) := Eq.trans rfl rfl
theorem c_Run_reset_35 : c_Run_reset[35]? = some (66, 3, .iinc 1 1, 0, 0, 0, 0, 0, []) := Eq.trans rfl rfl
theorem c_Run_reset_36 : c_Run_reset[36]? = some (69, 3, .goto (-15), 28, 0, 0, 0, 0, []) := Eq.trans rfl rfl
theorem c_Run_reset_37 : c_Run_reset[37]? = some (72, 1, .return_, 0, 0, 0, 0, 0, []) := Eq.trans rfl rfl
theorem mt_TS_startAnew : am_MT[19]? = some m_TS_startAnew := rfl
theorem c_TS_startAnew_0 : c_TS_startAnew[0]? = some (0, 1, .aload_n 0, 0, 0, 0, 0, 0, []) := Eq.trans rfl rfl
theorem c_TS_startAnew_1 : c_TS_startAnew[1]? = some (1, 3, .getfield 30, 0, 2, 0, 0, 325, []) := Eq.trans rfl rfl
theorem c_TS_startAnew_2 : c_TS_startAnew[2]? = some (4, 3, .invokevirtual 205, 20, 1, 3, 0, 389, []) := Eq.trans rfl rfl
theorem c_TS_startAnew_3 : c_TS_startAnew[3]? = some (7, 1, .aload_n 0, 0, 0, 0, 0, 0, []) := Eq.trans rfl rfl
theorem c_TS_startAnew_4 : c_TS_startAnew[4]? = some (8, 1, .iconst (-1), 0, 0, 0, 0, 0, []) := Eq.trans rfl rfl
theorem c_TS_startAnew_5 : c_TS_startAnew[5]? = some (9, 3, .putfield 41, 0, 4, 0, 0, 327, []) := Eq.trans rfl rfl
theorem c_TS_startAnew_6 : c_TS_startAnew[6]? = some (12, 1, .return_, 0, 0, 0, 0, 0, []) := Eq.trans rfl rfl
theorem mt_TS_begin : am_MT[38]? = some m_TS_begin := rfl
theorem c_TS_begin_0 : c_TS_begin[0]? = some (0, 1, .aload_n 0, 0, 0, 0, 0, 0, []) := Eq.trans rfl rfl
theorem c_TS_begin_1 : c_TS_begin[1]? = some (1, 3, .getfield 30, 0, 2, 0, 0, 325, []) := Eq.trans rfl rfl
theorem c_TS_begin_2 : c_TS_begin[2]? = some (4, 3, .getfield 102, 3, 0, 0, 0, 200, []) := Eq.trans rfl rfl
theorem c_TS_begin_3 : c_TS_begin[3]? = some (7, 1, .istore_n 1, 1, 0, 0, 0, 0, []) := Eq.trans rfl rfl
theorem c_TS_begin_4 : c_TS_begin[4]? = some (8, 1, .aload_n 0, 0, 0, 0, 0, 0, []) := Eq.trans rfl rfl
theorem c_TS_begin_5 : c_TS_begin[5]? = some (9, 3, .invokevirtual 105, 19, 1, 0, 0, 385, []) := Eq.trans rfl rfl
theorem c_TS_begin_6 : c_TS_begin[6]? = some (12, 1, .iload_n 1, 1, 0, 0, 0, 0, []) := Eq.trans rfl rfl
theorem c_TS_begin_7 : c_TS_begin[7]? = some (13, 1, .ireturn, 0, 0, 0, 0, 0, []) := Eq.trans rfl rfl
def fl (g : Int → Int) (i L v : Int) : Int → Int := fun j => if i ≤ j ∧ j < L then v else g j
theorem fl_e {g : Int → Int} {L v : Int} : fl g L L v = g := by
  funext j
  unfold fl
  rw [if_neg (by omega)]
theorem fl_s {g : Int → Int} {i L v : Int} (h : i < L) : fl (vI g i v) (i + 1) L v = fl g i L v := by
  funext j
  unfold fl vI
  by_cases c1 : j = i
  · rw [if_neg (by omega), if_pos c1, if_pos (by omega)]
  · by_cases c2 : i ≤ j ∧ j < L
    · rw [if_pos (by omega), if_pos c2]
    · rw [if_neg (by omega), if_neg c1, if_neg c2]
theorem fl_in {g : Int → Int} {L v j : Int} (h : 0 ≤ j ∧ j < L) : fl g 0 L v j = v := if_pos h
theorem am_put_same {h : am_H} {a : Nat} {E : am_E} (e : h.1 a = E) : am_put h a E = h := by
  unfold am_put
  rw [va_up_same e]
set_option maxHeartbeats 8000000 in
theorem lp_fill (d : Nat) (a : Nat) (ha : a ≠ 0) (L : Nat) (hL : L < 2000000) (v : Int) : ∀ (n : Nat) (i : Int) (h : am_H) (g : Int → Int), h.1 a = .inl (0, L, .inl (fun j : Nat => iI (g j))) → 0 ≤ i → i + n = L → am_Go am_df am_MT d c_Arrays_fillII (5, [(3, .int (iI L)), (2, .int (iI i)), (0, .ref a), (1, .int (iI v))], [], h) (fun r0 h' => r0 = none ∧ h' = am_put h a (.inl (0, L, .inl (fun j : Nat => iI (fl g i L v j))))) := by
  intro n
  induction n with
  | zero =>
    intro i h g hc h1 h2
    have e : i = L := by omega
    have c : (L : Int) ≤ L := Int.le_refl _
    rw [e, fl_e, am_put_same hc]
    refine am_go_of 10 [5] _ c_Arrays_fillII_5 ?_
    simp (maxSteps := 2000000) (disch := omega) only [c_Arrays_fillII_0, c_Arrays_fillII_1, c_Arrays_fillII_2, c_Arrays_fillII_3, c_Arrays_fillII_4, c_Arrays_fillII_5, c_Arrays_fillII_6, c_Arrays_fillII_7, c_Arrays_fillII_8, c_Arrays_fillII_9, c_Arrays_fillII_10, c_Arrays_fillII_11, c_Arrays_fillII_12, c_Arrays_fillII_13, c_Arrays_fillII_14, sx_aload_n, sx_arraylength, sx_goto, sx_iastore, sx_iconst, sx_if_icmp_ge, sx_iinc, sx_iload_n, sx_istore_n, sx_return, am_W_s, am_W_0, am_mm_some, List.mem_cons, or_false, false_or, or_self, or_true, true_or, reduceIte, if_false, if_true, am_o_some, am_o_none, am_o_bad, am_o_good, am_ldi_hit, am_ldi_miss, am_lda_hit, am_lda_miss, am_ldl_hit, am_ldl_miss, am_inc_eq, am_inc_hit, am_inc_miss, am_ob_hit, am_fd_0, am_fd_s, am_ai_hit, am_ab_3, am_al_hit, am_aq_4, am_al0_hit, am_put_1, am_put_2, am_put_put, am_up_hit, am_up_miss, am_s1_eq, am_s2_eq, am_fl_nil, am_fl_hit, am_fl_int, am_fl_ref, am_fl_long, am_fl_longx, am_fl2_nil, am_fl2_hit, am_fl2_hit1, am_fl2_int, am_fl2_ref, am_fl2_long, List.not_mem_nil, not_false_eq_true, ne_eq, Nat.reduceAdd, Nat.reduceEqDiff, Nat.zero_add, Nat.add_left_cancel_iff, List.set_cons_zero, List.set_cons_succ, List.length_cons, List.length_nil, Nat.reduceLT, am_ft_i, am_ft_r, am_ft_z, and_true, true_and, Option.toList_some, Option.toList_none, List.cons_append, List.nil_append, List.drop_succ_cons, List.drop_zero, iI_c, iI_b, iI_s, iI_n, iI_add, iI_sub, iI_mul, iI_neg, iI_nle, iI_ix, iI_eq0, iI_eq1, iI_lt0, iI_0lt, iI_le0, iI_0le, iI_eq, iI_lt, iI_le, iI_upd, iI_updZ, Int.reduceEq, Int.reduceLT, Int.reduceLE, Int.reduceNeg, Int.reduceNe, c, rw_hit]
    all_goals (first | rfl | trivial | omega)
  | succ n ih =>
    intro i h g hc h1 h2
    have c : ¬ (L : Int) ≤ i := by omega
    have g2 := ih (i + 1) (am_put h a (.inl (0, L, .inl (fun j : Nat => iI (vI g i v j))))) (vI g i v) (by rw [am_put_1, am_up_hit]) (by omega) (by omega)
    rw [fl_s (by omega), am_put_put] at g2
    refine am_go_of 20 [5] _ c_Arrays_fillII_5 ?_
    simp (maxSteps := 2000000) (disch := omega) only [c_Arrays_fillII_0, c_Arrays_fillII_1, c_Arrays_fillII_2, c_Arrays_fillII_3, c_Arrays_fillII_4, c_Arrays_fillII_5, c_Arrays_fillII_6, c_Arrays_fillII_7, c_Arrays_fillII_8, c_Arrays_fillII_9, c_Arrays_fillII_10, c_Arrays_fillII_11, c_Arrays_fillII_12, c_Arrays_fillII_13, c_Arrays_fillII_14, sx_aload_n, sx_arraylength, sx_goto, sx_iastore, sx_iconst, sx_if_icmp_ge, sx_iinc, sx_iload_n, sx_istore_n, sx_return, am_W_s, am_W_0, am_mm_some, List.mem_cons, or_false, false_or, or_self, or_true, true_or, reduceIte, if_false, if_true, am_o_some, am_o_none, am_o_bad, am_o_good, am_ldi_hit, am_ldi_miss, am_lda_hit, am_lda_miss, am_ldl_hit, am_ldl_miss, am_inc_eq, am_inc_hit, am_inc_miss, am_ob_hit, am_fd_0, am_fd_s, am_ai_hit, am_ab_3, am_al_hit, am_aq_4, am_al0_hit, am_put_1, am_put_2, am_put_put, am_up_hit, am_up_miss, am_s1_eq, am_s2_eq, am_fl_nil, am_fl_hit, am_fl_int, am_fl_ref, am_fl_long, am_fl_longx, am_fl2_nil, am_fl2_hit, am_fl2_hit1, am_fl2_int, am_fl2_ref, am_fl2_long, List.not_mem_nil, not_false_eq_true, ne_eq, Nat.reduceAdd, Nat.reduceEqDiff, Nat.zero_add, Nat.add_left_cancel_iff, List.set_cons_zero, List.set_cons_succ, List.length_cons, List.length_nil, Nat.reduceLT, am_ft_i, am_ft_r, am_ft_z, and_true, true_and, Option.toList_some, Option.toList_none, List.cons_append, List.nil_append, List.drop_succ_cons, List.drop_zero, iI_c, iI_b, iI_s, iI_n, iI_add, iI_sub, iI_mul, iI_neg, iI_nle, iI_ix, iI_eq0, iI_eq1, iI_lt0, iI_0lt, iI_le0, iI_0le, iI_eq, iI_lt, iI_le, iI_upd, iI_updZ, Int.reduceEq, Int.reduceLT, Int.reduceLE, Int.reduceNeg, Int.reduceNe, c, hc, ha, rw_hit]
    repeat (refine And.intro (by omega) ?_)
    exact g2.lo (al_le_of (by simp) (by simp))
set_option maxHeartbeats 8000000 in
theorem ct_fill (d : Nat) (hd : 1 ≤ d) (h : am_H) (a : Nat) (ha : a ≠ 0) (L : Nat) (hL : L < 2000000) (v : Int) (g : Int → Int) (hc : h.1 a = .inl (0, L, .inl (fun j : Nat => iI (g j)))) : am_Ct am_df am_MT d 22 [.ref a, .int (iI v)] h (fun r0 h' => r0 = none ∧ h' = am_put h a (.inl (0, L, .inl (fun j : Nat => iI (fl g 0 L v j))))) := by
  obtain ⟨d, rfl⟩ : ∃ e, d = e + 1 := ⟨d - 1, by omega⟩
  refine am_ct_of2 mt_Arrays_fillII (Nat.le_of_ble_eq_true rfl) ?_
  simp only [ar_nil, ar_int, ar_ref, ar_long, Nat.reduceAdd]
  refine am_go_of 10 [5] _ c_Arrays_fillII_0 ?_
  simp (maxSteps := 2000000) (disch := omega) only [c_Arrays_fillII_0, c_Arrays_fillII_1, c_Arrays_fillII_2, c_Arrays_fillII_3, c_Arrays_fillII_4, c_Arrays_fillII_5, c_Arrays_fillII_6, c_Arrays_fillII_7, c_Arrays_fillII_8, c_Arrays_fillII_9, c_Arrays_fillII_10, c_Arrays_fillII_11, c_Arrays_fillII_12, c_Arrays_fillII_13, c_Arrays_fillII_14, sx_aload_n, sx_arraylength, sx_goto, sx_iastore, sx_iconst, sx_if_icmp_ge, sx_iinc, sx_iload_n, sx_istore_n, sx_return, am_W_s, am_W_0, am_mm_some, List.mem_cons, or_false, false_or, or_self, or_true, true_or, reduceIte, if_false, if_true, am_o_some, am_o_none, am_o_bad, am_o_good, am_ldi_hit, am_ldi_miss, am_lda_hit, am_lda_miss, am_ldl_hit, am_ldl_miss, am_inc_eq, am_inc_hit, am_inc_miss, am_ob_hit, am_fd_0, am_fd_s, am_ai_hit, am_ab_3, am_al_hit, am_aq_4, am_al0_hit, am_put_1, am_put_2, am_put_put, am_up_hit, am_up_miss, am_s1_eq, am_s2_eq, am_fl_nil, am_fl_hit, am_fl_int, am_fl_ref, am_fl_long, am_fl_longx, am_fl2_nil, am_fl2_hit, am_fl2_hit1, am_fl2_int, am_fl2_ref, am_fl2_long, List.not_mem_nil, not_false_eq_true, ne_eq, Nat.reduceAdd, Nat.reduceEqDiff, Nat.zero_add, Nat.add_left_cancel_iff, List.set_cons_zero, List.set_cons_succ, List.length_cons, List.length_nil, Nat.reduceLT, am_ft_i, am_ft_r, am_ft_z, and_true, true_and, Option.toList_some, Option.toList_none, List.cons_append, List.nil_append, List.drop_succ_cons, List.drop_zero, iI_c, iI_b, iI_s, iI_n, iI_add, iI_sub, iI_mul, iI_neg, iI_nle, iI_ix, iI_eq0, iI_eq1, iI_lt0, iI_0lt, iI_le0, iI_0le, iI_eq, iI_lt, iI_le, iI_upd, iI_updZ, Int.reduceEq, Int.reduceLT, Int.reduceLE, Int.reduceNeg, Int.reduceNe, hc, rw_hit]
  exact (lp_fill d a ha L hL v L 0 h g hc (Int.le_refl _) (by omega)).lo (al_le_of (by simp) (by simp))
set_option maxHeartbeats 8000000 in
theorem ct_empty (d : Nat) (hd : 1 ≤ d) (h : am_H) (p q w : Nat) (n m : Int) (X : Nat → Int → Int) (S : Int → Int → Int) (H : ru_at h p q w n m X S) : am_Ct am_df am_MT d 21 [.ref (p + 1)] h (fun r0 h' => r0 = none ∧ ru_to h p q w n 0 X S h') := by
  have H' := H
  obtain ⟨h0, hO, hG, hA, hB, hS⟩ := H'
  obtain ⟨d, rfl⟩ : ∃ e, d = e + 1 := ⟨d - 1, by omega⟩
  refine am_ct_of2 mt_Log_empty (Nat.le_of_ble_eq_true rfl) ?_
  simp only [ar_nil, ar_int, ar_ref, ar_long, Nat.reduceAdd]
  refine am_go_of 10 [] _ c_Log_empty_0 ?_
  simp (maxSteps := 2000000) (disch := omega) only [c_Log_empty_0, c_Log_empty_1, c_Log_empty_2, c_Log_empty_3, sx_aload_n, sx_iconst, sx_putfield, sx_return, am_W_s, am_W_0, am_mm_some, List.mem_cons, or_false, false_or, or_self, or_true, true_or, reduceIte, if_false, if_true, am_o_some, am_o_none, am_o_bad, am_o_good, am_ldi_hit, am_ldi_miss, am_lda_hit, am_lda_miss, am_ldl_hit, am_ldl_miss, am_inc_eq, am_inc_hit, am_inc_miss, am_ob_hit, am_fd_0, am_fd_s, am_ai_hit, am_ab_3, am_al_hit, am_aq_4, am_al0_hit, am_put_1, am_put_2, am_put_put, am_up_hit, am_up_miss, am_s1_eq, am_s2_eq, am_fl_nil, am_fl_hit, am_fl_int, am_fl_ref, am_fl_long, am_fl_longx, am_fl2_nil, am_fl2_hit, am_fl2_hit1, am_fl2_int, am_fl2_ref, am_fl2_long, List.not_mem_nil, not_false_eq_true, ne_eq, Nat.reduceAdd, Nat.reduceEqDiff, Nat.zero_add, Nat.add_left_cancel_iff, List.set_cons_zero, List.set_cons_succ, List.length_cons, List.length_nil, Nat.reduceLT, am_ft_i, am_ft_r, am_ft_z, and_true, true_and, Option.toList_some, Option.toList_none, List.cons_append, List.nil_append, List.drop_succ_cons, List.drop_zero, iI_c, iI_b, iI_s, iI_n, iI_add, iI_sub, iI_mul, iI_neg, iI_nle, iI_ix, iI_eq0, iI_eq1, iI_lt0, iI_0lt, iI_le0, iI_0le, iI_eq, iI_lt, iI_le, iI_upd, iI_updZ, Int.reduceEq, Int.reduceLT, Int.reduceLE, Int.reduceNeg, Int.reduceNe, hG, lo_fs_len, lo_f0, lo_f1, lo_s0, ru_fs_len, ru_f0, ru_f1, ru_f2, ru_f3, ru_f4, ru_f5, ru_f6, ru_f7, ru_f8, ru_f9, ru_f10, ru_f11, ru_f12, ru_f13, ru_s0, ru_t2, ru_l2, ru_t3, ru_l3, ru_t4, ru_l4, ru_t5, ru_l5, ru_t10, ru_l10, ru_t11, ru_l11, ru_t12, ru_l12, ru_t13, ru_l13, ru_t14, ru_l14, ru_t15, ru_l15, rw_hit]
  repeat (refine And.intro (by omega) ?_)
  exact H.rf.lg
set_option maxHeartbeats 8000000 in
theorem lp_reset (d : Nat) (hd : 1 ≤ d) (p q w : Nat) (n m : Int) (S : Int → Int → Int) : ∀ (k : Nat) (i : Int) (h : am_H) (X : Nat → Int → Int), ru_at h p q w n m X S → 0 ≤ i → i + k = 6 → am_Go am_df am_MT d c_Run_reset (28, [(1, .int (iI i)), (0, .ref p)], [], h) (fun r0 h' => r0 = none ∧ ∃ X', ru_to h p q w n m X' S h' ∧ (∀ j : Nat, j ≠ 3 → j ≠ 4 → j ≠ 11 → j ≠ 12 → j ≠ 13 → j ≠ 14 → X' j = X j) ∧ ∀ t : Int, (¬ (i ≤ t ∧ t < 6) → X' 3 t = X 3 t ∧ X' 4 t = X 4 t ∧ X' 11 t = X 11 t ∧ X' 12 t = X 12 t ∧ X' 13 t = X 13 t ∧ X' 14 t = X 14 t) ∧ (i ≤ t ∧ t < 6 → X' 3 t = 0 ∧ X' 4 t = 0 ∧ X' 11 t = 0 ∧ X' 12 t = 0 ∧ X' 13 t = 0 ∧ X' 14 t = 0)) := by
  intro k
  induction k with
  | zero =>
    intro i h X H h1 h2
    have H' := H
    obtain ⟨h0, hO, -⟩ := H'
    have c : 6 ≤ i := by omega
    refine am_go_of 10 [5, 9, 13, 17, 21, 25, 28, 34] _ c_Run_reset_28 ?_
    simp (maxSteps := 2000000) (disch := omega) only [c_Run_reset_0, c_Run_reset_1, c_Run_reset_2, c_Run_reset_3, c_Run_reset_4, c_Run_reset_5, c_Run_reset_6, c_Run_reset_7, c_Run_reset_8, c_Run_reset_9, c_Run_reset_10, c_Run_reset_11, c_Run_reset_12, c_Run_reset_13, c_Run_reset_14, c_Run_reset_15, c_Run_reset_16, c_Run_reset_17, c_Run_reset_18, c_Run_reset_19, c_Run_reset_20, c_Run_reset_21, c_Run_reset_22, c_Run_reset_23, c_Run_reset_24, c_Run_reset_25, c_Run_reset_26, c_Run_reset_27, c_Run_reset_28, c_Run_reset_29, c_Run_reset_30, c_Run_reset_31, c_Run_reset_32, c_Run_reset_33, c_Run_reset_34, c_Run_reset_35, c_Run_reset_36, c_Run_reset_37, sx_aload_n, sx_bipush, sx_getfield, sx_goto, sx_iconst, sx_if_icmp_ge, sx_iinc, sx_iload_n, sx_istore_n, sx_putfield, sx_return, am_W_s, am_W_0, am_mm_some, List.mem_cons, or_false, false_or, or_self, or_true, true_or, reduceIte, if_false, if_true, am_o_some, am_o_none, am_o_bad, am_o_good, am_ldi_hit, am_ldi_miss, am_lda_hit, am_lda_miss, am_ldl_hit, am_ldl_miss, am_inc_eq, am_inc_hit, am_inc_miss, am_ob_hit, am_fd_0, am_fd_s, am_ai_hit, am_ab_3, am_al_hit, am_aq_4, am_al0_hit, am_put_1, am_put_2, am_put_put, am_up_hit, am_up_miss, am_s1_eq, am_s2_eq, am_fl_nil, am_fl_hit, am_fl_int, am_fl_ref, am_fl_long, am_fl_longx, am_fl2_nil, am_fl2_hit, am_fl2_hit1, am_fl2_int, am_fl2_ref, am_fl2_long, List.not_mem_nil, not_false_eq_true, ne_eq, Nat.reduceAdd, Nat.reduceEqDiff, Nat.zero_add, Nat.add_left_cancel_iff, List.set_cons_zero, List.set_cons_succ, List.length_cons, List.length_nil, Nat.reduceLT, am_ft_i, am_ft_r, am_ft_z, and_true, true_and, Option.toList_some, Option.toList_none, List.cons_append, List.nil_append, List.drop_succ_cons, List.drop_zero, iI_c, iI_b, iI_s, iI_n, iI_add, iI_sub, iI_mul, iI_neg, iI_nle, iI_ix, iI_eq0, iI_eq1, iI_lt0, iI_0lt, iI_le0, iI_0le, iI_eq, iI_lt, iI_le, iI_upd, iI_updZ, Int.reduceEq, Int.reduceLT, Int.reduceLE, Int.reduceNeg, Int.reduceNe, c, ru_fs_len, ru_f0, ru_f1, ru_f2, ru_f3, ru_f4, ru_f5, ru_f6, ru_f7, ru_f8, ru_f9, ru_f10, ru_f11, ru_f12, ru_f13, ru_s0, ru_t2, ru_l2, ru_t3, ru_l3, ru_t4, ru_l4, ru_t5, ru_l5, ru_t10, ru_l10, ru_t11, ru_l11, ru_t12, ru_l12, ru_t13, ru_l13, ru_t14, ru_l14, ru_t15, ru_l15, lo_fs_len, lo_f0, lo_f1, lo_s0, ty_fs_len, ty_f0, ty_f1, ty_f2, ty_f3, ty_f4, ty_f5, ty_f6, ty_f7, ty_f8, ty_f9, ty_s0, ty_t1, ty_l1, ty_t2, ty_l2, ty_t3, ty_l3, ty_t11, ty_l11, ty_t12, ty_l12, ty_t13, ty_l13, ty_t14, ty_l14, bo_fs_len, bo_f0, bo_f1, bo_f2, bo_f3, bo_f4, bo_f5, bo_f6, bo_f7, bo_f8, bo_s0, rw_hit]
    exact ⟨X, H.rf, fun _ _ _ _ _ _ _ => rfl, fun t => ⟨fun _ => ⟨rfl, rfl, rfl, rfl, rfl, rfl⟩, fun z => by omega⟩⟩
  | succ k ih =>
    intro i h X H h1 h2
    have H' := H
    obtain ⟨h0, hO, -⟩ := H'
    have c : ¬ 6 ≤ i := by omega
    refine am_go_of 10 [5, 9, 13, 17, 21, 25, 28, 34] _ c_Run_reset_28 ?_
    simp (maxSteps := 2000000) (disch := omega) only [c_Run_reset_0, c_Run_reset_1, c_Run_reset_2, c_Run_reset_3, c_Run_reset_4, c_Run_reset_5, c_Run_reset_6, c_Run_reset_7, c_Run_reset_8, c_Run_reset_9, c_Run_reset_10, c_Run_reset_11, c_Run_reset_12, c_Run_reset_13, c_Run_reset_14, c_Run_reset_15, c_Run_reset_16, c_Run_reset_17, c_Run_reset_18, c_Run_reset_19, c_Run_reset_20, c_Run_reset_21, c_Run_reset_22, c_Run_reset_23, c_Run_reset_24, c_Run_reset_25, c_Run_reset_26, c_Run_reset_27, c_Run_reset_28, c_Run_reset_29, c_Run_reset_30, c_Run_reset_31, c_Run_reset_32, c_Run_reset_33, c_Run_reset_34, c_Run_reset_35, c_Run_reset_36, c_Run_reset_37, sx_aload_n, sx_bipush, sx_getfield, sx_goto, sx_iconst, sx_if_icmp_ge, sx_iinc, sx_iload_n, sx_istore_n, sx_putfield, sx_return, am_W_s, am_W_0, am_mm_some, List.mem_cons, or_false, false_or, or_self, or_true, true_or, reduceIte, if_false, if_true, am_o_some, am_o_none, am_o_bad, am_o_good, am_ldi_hit, am_ldi_miss, am_lda_hit, am_lda_miss, am_ldl_hit, am_ldl_miss, am_inc_eq, am_inc_hit, am_inc_miss, am_ob_hit, am_fd_0, am_fd_s, am_ai_hit, am_ab_3, am_al_hit, am_aq_4, am_al0_hit, am_put_1, am_put_2, am_put_put, am_up_hit, am_up_miss, am_s1_eq, am_s2_eq, am_fl_nil, am_fl_hit, am_fl_int, am_fl_ref, am_fl_long, am_fl_longx, am_fl2_nil, am_fl2_hit, am_fl2_hit1, am_fl2_int, am_fl2_ref, am_fl2_long, List.not_mem_nil, not_false_eq_true, ne_eq, Nat.reduceAdd, Nat.reduceEqDiff, Nat.zero_add, Nat.add_left_cancel_iff, List.set_cons_zero, List.set_cons_succ, List.length_cons, List.length_nil, Nat.reduceLT, am_ft_i, am_ft_r, am_ft_z, and_true, true_and, Option.toList_some, Option.toList_none, List.cons_append, List.nil_append, List.drop_succ_cons, List.drop_zero, iI_c, iI_b, iI_s, iI_n, iI_add, iI_sub, iI_mul, iI_neg, iI_nle, iI_ix, iI_eq0, iI_eq1, iI_lt0, iI_0lt, iI_le0, iI_0le, iI_eq, iI_lt, iI_le, iI_upd, iI_updZ, Int.reduceEq, Int.reduceLT, Int.reduceLE, Int.reduceNeg, Int.reduceNe, c, ru_fs_len, ru_f0, ru_f1, ru_f2, ru_f3, ru_f4, ru_f5, ru_f6, ru_f7, ru_f8, ru_f9, ru_f10, ru_f11, ru_f12, ru_f13, ru_s0, ru_t2, ru_l2, ru_t3, ru_l3, ru_t4, ru_l4, ru_t5, ru_l5, ru_t10, ru_l10, ru_t11, ru_l11, ru_t12, ru_l12, ru_t13, ru_l13, ru_t14, ru_l14, ru_t15, ru_l15, lo_fs_len, lo_f0, lo_f1, lo_s0, ty_fs_len, ty_f0, ty_f1, ty_f2, ty_f3, ty_f4, ty_f5, ty_f6, ty_f7, ty_f8, ty_f9, ty_s0, ty_t1, ty_l1, ty_t2, ty_l2, ty_t3, ty_l3, ty_t11, ty_l11, ty_t12, ty_l12, ty_t13, ty_l13, ty_t14, ty_l14, bo_fs_len, bo_f0, bo_f1, bo_f2, bo_f3, bo_f4, bo_f5, bo_f6, bo_f7, bo_f8, bo_s0, rw_hit]
    refine am_go_call c_Run_reset_34 (by decide) (by decide) (by first | (simp [am_can, am_kd, Value.category, hO]; done) | (simp [am_can, am_kd, am_b, am_c, Value.category, hO]; done) | (simp (disch := omega) [am_can, am_kd, am_b, am_c, Value.category, am_put_1, am_up_hit, am_up_miss, hO]; done)) ?_
    refine (ct_takeAway d hd h p q w n m X S H i 0 ⟨h1, by omega⟩).mono (fun r9 h1' hr9 => ?_)
    obtain ⟨rfl, w1⟩ := hr9
    refine am_go_of 10 [5, 9, 13, 17, 21, 25, 28, 34] _ c_Run_reset_35 ?_
    simp (maxSteps := 2000000) (disch := omega) only [c_Run_reset_0, c_Run_reset_1, c_Run_reset_2, c_Run_reset_3, c_Run_reset_4, c_Run_reset_5, c_Run_reset_6, c_Run_reset_7, c_Run_reset_8, c_Run_reset_9, c_Run_reset_10, c_Run_reset_11, c_Run_reset_12, c_Run_reset_13, c_Run_reset_14, c_Run_reset_15, c_Run_reset_16, c_Run_reset_17, c_Run_reset_18, c_Run_reset_19, c_Run_reset_20, c_Run_reset_21, c_Run_reset_22, c_Run_reset_23, c_Run_reset_24, c_Run_reset_25, c_Run_reset_26, c_Run_reset_27, c_Run_reset_28, c_Run_reset_29, c_Run_reset_30, c_Run_reset_31, c_Run_reset_32, c_Run_reset_33, c_Run_reset_34, c_Run_reset_35, c_Run_reset_36, c_Run_reset_37, sx_aload_n, sx_bipush, sx_getfield, sx_goto, sx_iconst, sx_if_icmp_ge, sx_iinc, sx_iload_n, sx_istore_n, sx_putfield, sx_return, am_W_s, am_W_0, am_mm_some, List.mem_cons, or_false, false_or, or_self, or_true, true_or, reduceIte, if_false, if_true, am_o_some, am_o_none, am_o_bad, am_o_good, am_ldi_hit, am_ldi_miss, am_lda_hit, am_lda_miss, am_ldl_hit, am_ldl_miss, am_inc_eq, am_inc_hit, am_inc_miss, am_ob_hit, am_fd_0, am_fd_s, am_ai_hit, am_ab_3, am_al_hit, am_aq_4, am_al0_hit, am_put_1, am_put_2, am_put_put, am_up_hit, am_up_miss, am_s1_eq, am_s2_eq, am_fl_nil, am_fl_hit, am_fl_int, am_fl_ref, am_fl_long, am_fl_longx, am_fl2_nil, am_fl2_hit, am_fl2_hit1, am_fl2_int, am_fl2_ref, am_fl2_long, List.not_mem_nil, not_false_eq_true, ne_eq, Nat.reduceAdd, Nat.reduceEqDiff, Nat.zero_add, Nat.add_left_cancel_iff, List.set_cons_zero, List.set_cons_succ, List.length_cons, List.length_nil, Nat.reduceLT, am_ft_i, am_ft_r, am_ft_z, and_true, true_and, Option.toList_some, Option.toList_none, List.cons_append, List.nil_append, List.drop_succ_cons, List.drop_zero, iI_c, iI_b, iI_s, iI_n, iI_add, iI_sub, iI_mul, iI_neg, iI_nle, iI_ix, iI_eq0, iI_eq1, iI_lt0, iI_0lt, iI_le0, iI_0le, iI_eq, iI_lt, iI_le, iI_upd, iI_updZ, Int.reduceEq, Int.reduceLT, Int.reduceLE, Int.reduceNeg, Int.reduceNe, ru_fs_len, ru_f0, ru_f1, ru_f2, ru_f3, ru_f4, ru_f5, ru_f6, ru_f7, ru_f8, ru_f9, ru_f10, ru_f11, ru_f12, ru_f13, ru_s0, ru_t2, ru_l2, ru_t3, ru_l3, ru_t4, ru_l4, ru_t5, ru_l5, ru_t10, ru_l10, ru_t11, ru_l11, ru_t12, ru_l12, ru_t13, ru_l13, ru_t14, ru_l14, ru_t15, ru_l15, lo_fs_len, lo_f0, lo_f1, lo_s0, ty_fs_len, ty_f0, ty_f1, ty_f2, ty_f3, ty_f4, ty_f5, ty_f6, ty_f7, ty_f8, ty_f9, ty_s0, ty_t1, ty_l1, ty_t2, ty_l2, ty_t3, ty_l3, ty_t11, ty_l11, ty_t12, ty_l12, ty_t13, ty_l13, ty_t14, ty_l14, bo_fs_len, bo_f0, bo_f1, bo_f2, bo_f3, bo_f4, bo_f5, bo_f6, bo_f7, bo_f8, bo_s0, rw_hit]
    refine ((ih (i + 1) h1' _ w1.1 (by omega) (by omega)).mono (fun r0 h2' z => ?_)).lo (al_le_of (by simp) (by simp))
    obtain ⟨z0, X', w2, zf, zt⟩ := z
    refine ⟨z0, X', w1.tr w2, fun j a1 a2 a3 a4 a5 a6 => ?_, fun t => ?_⟩
    · rw [zf j a1 a2 a3 a4 a5 a6]
      unfold cx_away xI
      rw [va_up_miss a6, va_up_miss a5, va_up_miss a4, va_up_miss a3, va_up_miss a2, va_up_miss a1]
    · have y := zt t
      have e : ∀ j : Nat, cx_away X i 0 j t = if (j = 3 ∨ j = 4 ∨ j = 11 ∨ j = 12 ∨ j = 13 ∨ j = 14) ∧ t = i then 0 else X j t := fun j => by
        unfold cx_away
        simp only [xI_eq]
        by_cases c1 : t = i
        · simp only [c1, and_true]
          by_cases a1 : j = 3 <;> by_cases a2 : j = 4 <;> by_cases a3 : j = 11 <;> by_cases a4 : j = 12 <;> by_cases a5 : j = 13 <;> by_cases a6 : j = 14 <;> simp [a1, a2, a3, a4, a5, a6]
        · simp only [c1, and_false, if_false]
      by_cases c1 : t = i
      · have g := y.1 (by omega)
        rw [e, e, e, e, e, e] at g
        simp only [c1, and_true, true_or, or_true, if_true, Nat.reduceEqDiff, or_self, or_false, false_or] at g
        rw [c1]
        exact ⟨fun z => by omega, fun _ => g⟩
      · rw [e, e, e, e, e, e] at y
        simp only [c1, and_false, if_false] at y
        exact ⟨fun z => y.1 (by omega), fun z => y.2 (by omega)⟩
set_option maxHeartbeats 8000000 in
theorem ct_reset (d : Nat) (hd : 2 ≤ d) (h : am_H) (p q w : Nat) (n m : Int) (X : Nat → Int → Int) (S : Int → Int → Int) (H : ru_at h p q w n m X S) (r : rn) : am_Ct am_df am_MT d 20 [.ref p] h (fun r0 h' => r0 = none ∧ ∃ X', ru_to h p q w 0 0 X' S h' ∧ ru_ok (rz r) X' S) := by
  have H' := H
  obtain ⟨h0, hO, hG, hA, hB, hS⟩ := H'
  have w0 : ru_to h p q w 0 m X S _ := H.rf.num (n1 := 0)
  have hO1 := w0.1.2.1
  have hG1 := w0.1.2.2.1
  obtain ⟨d, rfl⟩ : ∃ e, d = e + 1 := ⟨d - 1, by omega⟩
  refine am_ct_of2 mt_Run_reset (Nat.le_of_ble_eq_true rfl) ?_
  simp only [ar_nil, ar_int, ar_ref, ar_long, Nat.reduceAdd]
  refine am_go_of 10 [5, 9, 13, 17, 21, 25, 28, 34] _ c_Run_reset_0 ?_
  simp (maxSteps := 2000000) (disch := omega) only [c_Run_reset_0, c_Run_reset_1, c_Run_reset_2, c_Run_reset_3, c_Run_reset_4, c_Run_reset_5, c_Run_reset_6, c_Run_reset_7, c_Run_reset_8, c_Run_reset_9, c_Run_reset_10, c_Run_reset_11, c_Run_reset_12, c_Run_reset_13, c_Run_reset_14, c_Run_reset_15, c_Run_reset_16, c_Run_reset_17, c_Run_reset_18, c_Run_reset_19, c_Run_reset_20, c_Run_reset_21, c_Run_reset_22, c_Run_reset_23, c_Run_reset_24, c_Run_reset_25, c_Run_reset_26, c_Run_reset_27, c_Run_reset_28, c_Run_reset_29, c_Run_reset_30, c_Run_reset_31, c_Run_reset_32, c_Run_reset_33, c_Run_reset_34, c_Run_reset_35, c_Run_reset_36, c_Run_reset_37, sx_aload_n, sx_bipush, sx_getfield, sx_goto, sx_iconst, sx_if_icmp_ge, sx_iinc, sx_iload_n, sx_istore_n, sx_putfield, sx_return, am_W_s, am_W_0, am_mm_some, List.mem_cons, or_false, false_or, or_self, or_true, true_or, reduceIte, if_false, if_true, am_o_some, am_o_none, am_o_bad, am_o_good, am_ldi_hit, am_ldi_miss, am_lda_hit, am_lda_miss, am_ldl_hit, am_ldl_miss, am_inc_eq, am_inc_hit, am_inc_miss, am_ob_hit, am_fd_0, am_fd_s, am_ai_hit, am_ab_3, am_al_hit, am_aq_4, am_al0_hit, am_put_1, am_put_2, am_put_put, am_up_hit, am_up_miss, am_s1_eq, am_s2_eq, am_fl_nil, am_fl_hit, am_fl_int, am_fl_ref, am_fl_long, am_fl_longx, am_fl2_nil, am_fl2_hit, am_fl2_hit1, am_fl2_int, am_fl2_ref, am_fl2_long, List.not_mem_nil, not_false_eq_true, ne_eq, Nat.reduceAdd, Nat.reduceEqDiff, Nat.zero_add, Nat.add_left_cancel_iff, List.set_cons_zero, List.set_cons_succ, List.length_cons, List.length_nil, Nat.reduceLT, am_ft_i, am_ft_r, am_ft_z, and_true, true_and, Option.toList_some, Option.toList_none, List.cons_append, List.nil_append, List.drop_succ_cons, List.drop_zero, iI_c, iI_b, iI_s, iI_n, iI_add, iI_sub, iI_mul, iI_neg, iI_nle, iI_ix, iI_eq0, iI_eq1, iI_lt0, iI_0lt, iI_le0, iI_0le, iI_eq, iI_lt, iI_le, iI_upd, iI_updZ, Int.reduceEq, Int.reduceLT, Int.reduceLE, Int.reduceNeg, Int.reduceNe, hO, ru_fs_len, ru_f0, ru_f1, ru_f2, ru_f3, ru_f4, ru_f5, ru_f6, ru_f7, ru_f8, ru_f9, ru_f10, ru_f11, ru_f12, ru_f13, ru_s0, ru_t2, ru_l2, ru_t3, ru_l3, ru_t4, ru_l4, ru_t5, ru_l5, ru_t10, ru_l10, ru_t11, ru_l11, ru_t12, ru_l12, ru_t13, ru_l13, ru_t14, ru_l14, ru_t15, ru_l15, lo_fs_len, lo_f0, lo_f1, lo_s0, ty_fs_len, ty_f0, ty_f1, ty_f2, ty_f3, ty_f4, ty_f5, ty_f6, ty_f7, ty_f8, ty_f9, ty_s0, ty_t1, ty_l1, ty_t2, ty_l2, ty_t3, ty_l3, ty_t11, ty_l11, ty_t12, ty_l12, ty_t13, ty_l13, ty_t14, ty_l14, bo_fs_len, bo_f0, bo_f1, bo_f2, bo_f3, bo_f4, bo_f5, bo_f6, bo_f7, bo_f8, bo_s0, rw_hit]
  repeat (refine And.intro (by omega) ?_)
  refine am_go_call c_Run_reset_5 (by decide) (by decide) (by first | (simp [am_can, am_kd, Value.category, hG1]; done) | (simp [am_can, am_kd, am_b, am_c, Value.category, hG1]; done) | (simp (disch := omega) [am_can, am_kd, am_b, am_c, Value.category, am_put_1, am_up_hit, am_up_miss, hG1]; done)) ?_
  refine (ct_empty d (by omega) _ p q w 0 m X S w0.1).mono (fun r9 h1 hr9 => ?_)
  obtain ⟨rfl, w1⟩ := hr9
  have w1' := w0.tr w1
  have hO2 := w1.1.2.1
  refine am_go_of 10 [5, 9, 13, 17, 21, 25, 28, 34] _ c_Run_reset_6 ?_
  simp (maxSteps := 2000000) (disch := omega) only [c_Run_reset_0, c_Run_reset_1, c_Run_reset_2, c_Run_reset_3, c_Run_reset_4, c_Run_reset_5, c_Run_reset_6, c_Run_reset_7, c_Run_reset_8, c_Run_reset_9, c_Run_reset_10, c_Run_reset_11, c_Run_reset_12, c_Run_reset_13, c_Run_reset_14, c_Run_reset_15, c_Run_reset_16, c_Run_reset_17, c_Run_reset_18, c_Run_reset_19, c_Run_reset_20, c_Run_reset_21, c_Run_reset_22, c_Run_reset_23, c_Run_reset_24, c_Run_reset_25, c_Run_reset_26, c_Run_reset_27, c_Run_reset_28, c_Run_reset_29, c_Run_reset_30, c_Run_reset_31, c_Run_reset_32, c_Run_reset_33, c_Run_reset_34, c_Run_reset_35, c_Run_reset_36, c_Run_reset_37, sx_aload_n, sx_bipush, sx_getfield, sx_goto, sx_iconst, sx_if_icmp_ge, sx_iinc, sx_iload_n, sx_istore_n, sx_putfield, sx_return, am_W_s, am_W_0, am_mm_some, List.mem_cons, or_false, false_or, or_self, or_true, true_or, reduceIte, if_false, if_true, am_o_some, am_o_none, am_o_bad, am_o_good, am_ldi_hit, am_ldi_miss, am_lda_hit, am_lda_miss, am_ldl_hit, am_ldl_miss, am_inc_eq, am_inc_hit, am_inc_miss, am_ob_hit, am_fd_0, am_fd_s, am_ai_hit, am_ab_3, am_al_hit, am_aq_4, am_al0_hit, am_put_1, am_put_2, am_put_put, am_up_hit, am_up_miss, am_s1_eq, am_s2_eq, am_fl_nil, am_fl_hit, am_fl_int, am_fl_ref, am_fl_long, am_fl_longx, am_fl2_nil, am_fl2_hit, am_fl2_hit1, am_fl2_int, am_fl2_ref, am_fl2_long, List.not_mem_nil, not_false_eq_true, ne_eq, Nat.reduceAdd, Nat.reduceEqDiff, Nat.zero_add, Nat.add_left_cancel_iff, List.set_cons_zero, List.set_cons_succ, List.length_cons, List.length_nil, Nat.reduceLT, am_ft_i, am_ft_r, am_ft_z, and_true, true_and, Option.toList_some, Option.toList_none, List.cons_append, List.nil_append, List.drop_succ_cons, List.drop_zero, iI_c, iI_b, iI_s, iI_n, iI_add, iI_sub, iI_mul, iI_neg, iI_nle, iI_ix, iI_eq0, iI_eq1, iI_lt0, iI_0lt, iI_le0, iI_0le, iI_eq, iI_lt, iI_le, iI_upd, iI_updZ, Int.reduceEq, Int.reduceLT, Int.reduceLE, Int.reduceNeg, Int.reduceNe, hO2, ru_fs_len, ru_f0, ru_f1, ru_f2, ru_f3, ru_f4, ru_f5, ru_f6, ru_f7, ru_f8, ru_f9, ru_f10, ru_f11, ru_f12, ru_f13, ru_s0, ru_t2, ru_l2, ru_t3, ru_l3, ru_t4, ru_l4, ru_t5, ru_l5, ru_t10, ru_l10, ru_t11, ru_l11, ru_t12, ru_l12, ru_t13, ru_l13, ru_t14, ru_l14, ru_t15, ru_l15, lo_fs_len, lo_f0, lo_f1, lo_s0, ty_fs_len, ty_f0, ty_f1, ty_f2, ty_f3, ty_f4, ty_f5, ty_f6, ty_f7, ty_f8, ty_f9, ty_s0, ty_t1, ty_l1, ty_t2, ty_l2, ty_t3, ty_l3, ty_t11, ty_l11, ty_t12, ty_l12, ty_t13, ty_l13, ty_t14, ty_l14, bo_fs_len, bo_f0, bo_f1, bo_f2, bo_f3, bo_f4, bo_f5, bo_f6, bo_f7, bo_f8, bo_s0, rw_hit]
  refine am_go_call c_Run_reset_9 (by decide) (by decide) (by first | (simp [am_can, am_kd, Value.category]; done) | (simp [am_can, am_kd, am_b, am_c, Value.category]; done) | (simp (disch := omega) [am_can, am_kd, am_b, am_c, Value.category, am_put_1, am_up_hit, am_up_miss]; done)) ?_
  refine (ct_fill d (by omega) h1 (p + 5) (by omega) 6 (by decide) 0 (X 5) (w1.1.2.2.2.1 5 (by decide) (by decide) (by decide))).mono (fun r9 h2 hr9 => ?_)
  obtain ⟨rfl, e2⟩ := hr9
  have w2 : ru_to h p q w 0 0 (va_up X 5 (fl (X 5) 0 6 0)) S h2 := by
    rw [e2]
    exact w1'.row (k := 5) (t := 0) (l := 6) (by decide) rfl rfl
  clear e2
  have hO3 := w2.1.2.1
  refine am_go_of 10 [5, 9, 13, 17, 21, 25, 28, 34] _ c_Run_reset_10 ?_
  simp (maxSteps := 2000000) (disch := omega) only [c_Run_reset_0, c_Run_reset_1, c_Run_reset_2, c_Run_reset_3, c_Run_reset_4, c_Run_reset_5, c_Run_reset_6, c_Run_reset_7, c_Run_reset_8, c_Run_reset_9, c_Run_reset_10, c_Run_reset_11, c_Run_reset_12, c_Run_reset_13, c_Run_reset_14, c_Run_reset_15, c_Run_reset_16, c_Run_reset_17, c_Run_reset_18, c_Run_reset_19, c_Run_reset_20, c_Run_reset_21, c_Run_reset_22, c_Run_reset_23, c_Run_reset_24, c_Run_reset_25, c_Run_reset_26, c_Run_reset_27, c_Run_reset_28, c_Run_reset_29, c_Run_reset_30, c_Run_reset_31, c_Run_reset_32, c_Run_reset_33, c_Run_reset_34, c_Run_reset_35, c_Run_reset_36, c_Run_reset_37, sx_aload_n, sx_bipush, sx_getfield, sx_goto, sx_iconst, sx_if_icmp_ge, sx_iinc, sx_iload_n, sx_istore_n, sx_putfield, sx_return, am_W_s, am_W_0, am_mm_some, List.mem_cons, or_false, false_or, or_self, or_true, true_or, reduceIte, if_false, if_true, am_o_some, am_o_none, am_o_bad, am_o_good, am_ldi_hit, am_ldi_miss, am_lda_hit, am_lda_miss, am_ldl_hit, am_ldl_miss, am_inc_eq, am_inc_hit, am_inc_miss, am_ob_hit, am_fd_0, am_fd_s, am_ai_hit, am_ab_3, am_al_hit, am_aq_4, am_al0_hit, am_put_1, am_put_2, am_put_put, am_up_hit, am_up_miss, am_s1_eq, am_s2_eq, am_fl_nil, am_fl_hit, am_fl_int, am_fl_ref, am_fl_long, am_fl_longx, am_fl2_nil, am_fl2_hit, am_fl2_hit1, am_fl2_int, am_fl2_ref, am_fl2_long, List.not_mem_nil, not_false_eq_true, ne_eq, Nat.reduceAdd, Nat.reduceEqDiff, Nat.zero_add, Nat.add_left_cancel_iff, List.set_cons_zero, List.set_cons_succ, List.length_cons, List.length_nil, Nat.reduceLT, am_ft_i, am_ft_r, am_ft_z, and_true, true_and, Option.toList_some, Option.toList_none, List.cons_append, List.nil_append, List.drop_succ_cons, List.drop_zero, iI_c, iI_b, iI_s, iI_n, iI_add, iI_sub, iI_mul, iI_neg, iI_nle, iI_ix, iI_eq0, iI_eq1, iI_lt0, iI_0lt, iI_le0, iI_0le, iI_eq, iI_lt, iI_le, iI_upd, iI_updZ, Int.reduceEq, Int.reduceLT, Int.reduceLE, Int.reduceNeg, Int.reduceNe, hO3, ru_fs_len, ru_f0, ru_f1, ru_f2, ru_f3, ru_f4, ru_f5, ru_f6, ru_f7, ru_f8, ru_f9, ru_f10, ru_f11, ru_f12, ru_f13, ru_s0, ru_t2, ru_l2, ru_t3, ru_l3, ru_t4, ru_l4, ru_t5, ru_l5, ru_t10, ru_l10, ru_t11, ru_l11, ru_t12, ru_l12, ru_t13, ru_l13, ru_t14, ru_l14, ru_t15, ru_l15, lo_fs_len, lo_f0, lo_f1, lo_s0, ty_fs_len, ty_f0, ty_f1, ty_f2, ty_f3, ty_f4, ty_f5, ty_f6, ty_f7, ty_f8, ty_f9, ty_s0, ty_t1, ty_l1, ty_t2, ty_l2, ty_t3, ty_l3, ty_t11, ty_l11, ty_t12, ty_l12, ty_t13, ty_l13, ty_t14, ty_l14, bo_fs_len, bo_f0, bo_f1, bo_f2, bo_f3, bo_f4, bo_f5, bo_f6, bo_f7, bo_f8, bo_s0, rw_hit]
  refine am_go_call c_Run_reset_13 (by decide) (by decide) (by first | (simp [am_can, am_kd, Value.category]; done) | (simp [am_can, am_kd, am_b, am_c, Value.category]; done) | (simp (disch := omega) [am_can, am_kd, am_b, am_c, Value.category, am_put_1, am_up_hit, am_up_miss]; done)) ?_
  refine (ct_fill d (by omega) h2 (p + 10) (by omega) 3 (by decide) 0 (X 10) (w2.1.2.2.2.1 10 (by decide) (by decide) (by decide))).mono (fun r9 h3 hr9 => ?_)
  obtain ⟨rfl, e3⟩ := hr9
  have w3 : ru_to h p q w 0 0 (va_up (va_up X 5 (fl (X 5) 0 6 0)) 10 (fl (X 10) 0 3 0)) S h3 := by
    rw [e3]
    exact w2.row (k := 10) (t := 0) (l := 3) (by decide) rfl rfl
  clear e3
  have hO4 := w3.1.2.1
  refine am_go_of 10 [5, 9, 13, 17, 21, 25, 28, 34] _ c_Run_reset_14 ?_
  simp (maxSteps := 2000000) (disch := omega) only [c_Run_reset_0, c_Run_reset_1, c_Run_reset_2, c_Run_reset_3, c_Run_reset_4, c_Run_reset_5, c_Run_reset_6, c_Run_reset_7, c_Run_reset_8, c_Run_reset_9, c_Run_reset_10, c_Run_reset_11, c_Run_reset_12, c_Run_reset_13, c_Run_reset_14, c_Run_reset_15, c_Run_reset_16, c_Run_reset_17, c_Run_reset_18, c_Run_reset_19, c_Run_reset_20, c_Run_reset_21, c_Run_reset_22, c_Run_reset_23, c_Run_reset_24, c_Run_reset_25, c_Run_reset_26, c_Run_reset_27, c_Run_reset_28, c_Run_reset_29, c_Run_reset_30, c_Run_reset_31, c_Run_reset_32, c_Run_reset_33, c_Run_reset_34, c_Run_reset_35, c_Run_reset_36, c_Run_reset_37, sx_aload_n, sx_bipush, sx_getfield, sx_goto, sx_iconst, sx_if_icmp_ge, sx_iinc, sx_iload_n, sx_istore_n, sx_putfield, sx_return, am_W_s, am_W_0, am_mm_some, List.mem_cons, or_false, false_or, or_self, or_true, true_or, reduceIte, if_false, if_true, am_o_some, am_o_none, am_o_bad, am_o_good, am_ldi_hit, am_ldi_miss, am_lda_hit, am_lda_miss, am_ldl_hit, am_ldl_miss, am_inc_eq, am_inc_hit, am_inc_miss, am_ob_hit, am_fd_0, am_fd_s, am_ai_hit, am_ab_3, am_al_hit, am_aq_4, am_al0_hit, am_put_1, am_put_2, am_put_put, am_up_hit, am_up_miss, am_s1_eq, am_s2_eq, am_fl_nil, am_fl_hit, am_fl_int, am_fl_ref, am_fl_long, am_fl_longx, am_fl2_nil, am_fl2_hit, am_fl2_hit1, am_fl2_int, am_fl2_ref, am_fl2_long, List.not_mem_nil, not_false_eq_true, ne_eq, Nat.reduceAdd, Nat.reduceEqDiff, Nat.zero_add, Nat.add_left_cancel_iff, List.set_cons_zero, List.set_cons_succ, List.length_cons, List.length_nil, Nat.reduceLT, am_ft_i, am_ft_r, am_ft_z, and_true, true_and, Option.toList_some, Option.toList_none, List.cons_append, List.nil_append, List.drop_succ_cons, List.drop_zero, iI_c, iI_b, iI_s, iI_n, iI_add, iI_sub, iI_mul, iI_neg, iI_nle, iI_ix, iI_eq0, iI_eq1, iI_lt0, iI_0lt, iI_le0, iI_0le, iI_eq, iI_lt, iI_le, iI_upd, iI_updZ, Int.reduceEq, Int.reduceLT, Int.reduceLE, Int.reduceNeg, Int.reduceNe, hO4, ru_fs_len, ru_f0, ru_f1, ru_f2, ru_f3, ru_f4, ru_f5, ru_f6, ru_f7, ru_f8, ru_f9, ru_f10, ru_f11, ru_f12, ru_f13, ru_s0, ru_t2, ru_l2, ru_t3, ru_l3, ru_t4, ru_l4, ru_t5, ru_l5, ru_t10, ru_l10, ru_t11, ru_l11, ru_t12, ru_l12, ru_t13, ru_l13, ru_t14, ru_l14, ru_t15, ru_l15, lo_fs_len, lo_f0, lo_f1, lo_s0, ty_fs_len, ty_f0, ty_f1, ty_f2, ty_f3, ty_f4, ty_f5, ty_f6, ty_f7, ty_f8, ty_f9, ty_s0, ty_t1, ty_l1, ty_t2, ty_l2, ty_t3, ty_l3, ty_t11, ty_l11, ty_t12, ty_l12, ty_t13, ty_l13, ty_t14, ty_l14, bo_fs_len, bo_f0, bo_f1, bo_f2, bo_f3, bo_f4, bo_f5, bo_f6, bo_f7, bo_f8, bo_s0, rw_hit]
  refine am_go_call c_Run_reset_17 (by decide) (by decide) (by first | (simp [am_can, am_kd, Value.category]; done) | (simp [am_can, am_kd, am_b, am_c, Value.category]; done) | (simp (disch := omega) [am_can, am_kd, am_b, am_c, Value.category, am_put_1, am_up_hit, am_up_miss]; done)) ?_
  refine (ct_fill d (by omega) h3 (p + 15) (by omega) 3 (by decide) 0 (X 15) (w3.1.2.2.2.1 15 (by decide) (by decide) (by decide))).mono (fun r9 h4 hr9 => ?_)
  obtain ⟨rfl, e4⟩ := hr9
  have w4 : ru_to h p q w 0 0 (va_up (va_up (va_up X 5 (fl (X 5) 0 6 0)) 10 (fl (X 10) 0 3 0)) 15 (fl (X 15) 0 3 0)) S h4 := by
    rw [e4]
    exact w3.row (k := 15) (t := 0) (l := 3) (by decide) rfl rfl
  clear e4
  have hO5 := w4.1.2.1
  refine am_go_of 10 [5, 9, 13, 17, 21, 25, 28, 34] _ c_Run_reset_18 ?_
  simp (maxSteps := 2000000) (disch := omega) only [c_Run_reset_0, c_Run_reset_1, c_Run_reset_2, c_Run_reset_3, c_Run_reset_4, c_Run_reset_5, c_Run_reset_6, c_Run_reset_7, c_Run_reset_8, c_Run_reset_9, c_Run_reset_10, c_Run_reset_11, c_Run_reset_12, c_Run_reset_13, c_Run_reset_14, c_Run_reset_15, c_Run_reset_16, c_Run_reset_17, c_Run_reset_18, c_Run_reset_19, c_Run_reset_20, c_Run_reset_21, c_Run_reset_22, c_Run_reset_23, c_Run_reset_24, c_Run_reset_25, c_Run_reset_26, c_Run_reset_27, c_Run_reset_28, c_Run_reset_29, c_Run_reset_30, c_Run_reset_31, c_Run_reset_32, c_Run_reset_33, c_Run_reset_34, c_Run_reset_35, c_Run_reset_36, c_Run_reset_37, sx_aload_n, sx_bipush, sx_getfield, sx_goto, sx_iconst, sx_if_icmp_ge, sx_iinc, sx_iload_n, sx_istore_n, sx_putfield, sx_return, am_W_s, am_W_0, am_mm_some, List.mem_cons, or_false, false_or, or_self, or_true, true_or, reduceIte, if_false, if_true, am_o_some, am_o_none, am_o_bad, am_o_good, am_ldi_hit, am_ldi_miss, am_lda_hit, am_lda_miss, am_ldl_hit, am_ldl_miss, am_inc_eq, am_inc_hit, am_inc_miss, am_ob_hit, am_fd_0, am_fd_s, am_ai_hit, am_ab_3, am_al_hit, am_aq_4, am_al0_hit, am_put_1, am_put_2, am_put_put, am_up_hit, am_up_miss, am_s1_eq, am_s2_eq, am_fl_nil, am_fl_hit, am_fl_int, am_fl_ref, am_fl_long, am_fl_longx, am_fl2_nil, am_fl2_hit, am_fl2_hit1, am_fl2_int, am_fl2_ref, am_fl2_long, List.not_mem_nil, not_false_eq_true, ne_eq, Nat.reduceAdd, Nat.reduceEqDiff, Nat.zero_add, Nat.add_left_cancel_iff, List.set_cons_zero, List.set_cons_succ, List.length_cons, List.length_nil, Nat.reduceLT, am_ft_i, am_ft_r, am_ft_z, and_true, true_and, Option.toList_some, Option.toList_none, List.cons_append, List.nil_append, List.drop_succ_cons, List.drop_zero, iI_c, iI_b, iI_s, iI_n, iI_add, iI_sub, iI_mul, iI_neg, iI_nle, iI_ix, iI_eq0, iI_eq1, iI_lt0, iI_0lt, iI_le0, iI_0le, iI_eq, iI_lt, iI_le, iI_upd, iI_updZ, Int.reduceEq, Int.reduceLT, Int.reduceLE, Int.reduceNeg, Int.reduceNe, hO5, ru_fs_len, ru_f0, ru_f1, ru_f2, ru_f3, ru_f4, ru_f5, ru_f6, ru_f7, ru_f8, ru_f9, ru_f10, ru_f11, ru_f12, ru_f13, ru_s0, ru_t2, ru_l2, ru_t3, ru_l3, ru_t4, ru_l4, ru_t5, ru_l5, ru_t10, ru_l10, ru_t11, ru_l11, ru_t12, ru_l12, ru_t13, ru_l13, ru_t14, ru_l14, ru_t15, ru_l15, lo_fs_len, lo_f0, lo_f1, lo_s0, ty_fs_len, ty_f0, ty_f1, ty_f2, ty_f3, ty_f4, ty_f5, ty_f6, ty_f7, ty_f8, ty_f9, ty_s0, ty_t1, ty_l1, ty_t2, ty_l2, ty_t3, ty_l3, ty_t11, ty_l11, ty_t12, ty_l12, ty_t13, ty_l13, ty_t14, ty_l14, bo_fs_len, bo_f0, bo_f1, bo_f2, bo_f3, bo_f4, bo_f5, bo_f6, bo_f7, bo_f8, bo_s0, rw_hit]
  refine am_go_call c_Run_reset_21 (by decide) (by decide) (by first | (simp [am_can, am_kd, Value.category]; done) | (simp [am_can, am_kd, am_b, am_c, Value.category]; done) | (simp (disch := omega) [am_can, am_kd, am_b, am_c, Value.category, am_put_1, am_up_hit, am_up_miss]; done)) ?_
  refine (ct_fill d (by omega) h4 (p + 13) (by omega) 9 (by decide) 0 (X 13) (w4.1.2.2.2.1 13 (by decide) (by decide) (by decide))).mono (fun r9 h5 hr9 => ?_)
  obtain ⟨rfl, e5⟩ := hr9
  have w5 : ru_to h p q w 0 0 (va_up (va_up (va_up (va_up X 5 (fl (X 5) 0 6 0)) 10 (fl (X 10) 0 3 0)) 15 (fl (X 15) 0 3 0)) 13 (fl (X 13) 0 9 0)) S h5 := by
    rw [e5]
    exact w4.row (k := 13) (t := 0) (l := 9) (by decide) rfl rfl
  clear e5
  have hO6 := w5.1.2.1
  refine am_go_of 10 [5, 9, 13, 17, 21, 25, 28, 34] _ c_Run_reset_22 ?_
  simp (maxSteps := 2000000) (disch := omega) only [c_Run_reset_0, c_Run_reset_1, c_Run_reset_2, c_Run_reset_3, c_Run_reset_4, c_Run_reset_5, c_Run_reset_6, c_Run_reset_7, c_Run_reset_8, c_Run_reset_9, c_Run_reset_10, c_Run_reset_11, c_Run_reset_12, c_Run_reset_13, c_Run_reset_14, c_Run_reset_15, c_Run_reset_16, c_Run_reset_17, c_Run_reset_18, c_Run_reset_19, c_Run_reset_20, c_Run_reset_21, c_Run_reset_22, c_Run_reset_23, c_Run_reset_24, c_Run_reset_25, c_Run_reset_26, c_Run_reset_27, c_Run_reset_28, c_Run_reset_29, c_Run_reset_30, c_Run_reset_31, c_Run_reset_32, c_Run_reset_33, c_Run_reset_34, c_Run_reset_35, c_Run_reset_36, c_Run_reset_37, sx_aload_n, sx_bipush, sx_getfield, sx_goto, sx_iconst, sx_if_icmp_ge, sx_iinc, sx_iload_n, sx_istore_n, sx_putfield, sx_return, am_W_s, am_W_0, am_mm_some, List.mem_cons, or_false, false_or, or_self, or_true, true_or, reduceIte, if_false, if_true, am_o_some, am_o_none, am_o_bad, am_o_good, am_ldi_hit, am_ldi_miss, am_lda_hit, am_lda_miss, am_ldl_hit, am_ldl_miss, am_inc_eq, am_inc_hit, am_inc_miss, am_ob_hit, am_fd_0, am_fd_s, am_ai_hit, am_ab_3, am_al_hit, am_aq_4, am_al0_hit, am_put_1, am_put_2, am_put_put, am_up_hit, am_up_miss, am_s1_eq, am_s2_eq, am_fl_nil, am_fl_hit, am_fl_int, am_fl_ref, am_fl_long, am_fl_longx, am_fl2_nil, am_fl2_hit, am_fl2_hit1, am_fl2_int, am_fl2_ref, am_fl2_long, List.not_mem_nil, not_false_eq_true, ne_eq, Nat.reduceAdd, Nat.reduceEqDiff, Nat.zero_add, Nat.add_left_cancel_iff, List.set_cons_zero, List.set_cons_succ, List.length_cons, List.length_nil, Nat.reduceLT, am_ft_i, am_ft_r, am_ft_z, and_true, true_and, Option.toList_some, Option.toList_none, List.cons_append, List.nil_append, List.drop_succ_cons, List.drop_zero, iI_c, iI_b, iI_s, iI_n, iI_add, iI_sub, iI_mul, iI_neg, iI_nle, iI_ix, iI_eq0, iI_eq1, iI_lt0, iI_0lt, iI_le0, iI_0le, iI_eq, iI_lt, iI_le, iI_upd, iI_updZ, Int.reduceEq, Int.reduceLT, Int.reduceLE, Int.reduceNeg, Int.reduceNe, hO6, ru_fs_len, ru_f0, ru_f1, ru_f2, ru_f3, ru_f4, ru_f5, ru_f6, ru_f7, ru_f8, ru_f9, ru_f10, ru_f11, ru_f12, ru_f13, ru_s0, ru_t2, ru_l2, ru_t3, ru_l3, ru_t4, ru_l4, ru_t5, ru_l5, ru_t10, ru_l10, ru_t11, ru_l11, ru_t12, ru_l12, ru_t13, ru_l13, ru_t14, ru_l14, ru_t15, ru_l15, lo_fs_len, lo_f0, lo_f1, lo_s0, ty_fs_len, ty_f0, ty_f1, ty_f2, ty_f3, ty_f4, ty_f5, ty_f6, ty_f7, ty_f8, ty_f9, ty_s0, ty_t1, ty_l1, ty_t2, ty_l2, ty_t3, ty_l3, ty_t11, ty_l11, ty_t12, ty_l12, ty_t13, ty_l13, ty_t14, ty_l14, bo_fs_len, bo_f0, bo_f1, bo_f2, bo_f3, bo_f4, bo_f5, bo_f6, bo_f7, bo_f8, bo_s0, rw_hit]
  refine am_go_call c_Run_reset_25 (by decide) (by decide) (by first | (simp [am_can, am_kd, Value.category]; done) | (simp [am_can, am_kd, am_b, am_c, Value.category]; done) | (simp (disch := omega) [am_can, am_kd, am_b, am_c, Value.category, am_put_1, am_up_hit, am_up_miss]; done)) ?_
  refine (ct_fill d (by omega) h5 (p + 14) (by omega) 9 (by decide) 0 (X 14) (w5.1.2.2.2.1 14 (by decide) (by decide) (by decide))).mono (fun r9 h6 hr9 => ?_)
  obtain ⟨rfl, e6⟩ := hr9
  have w6 : ru_to h p q w 0 0 (va_up (va_up (va_up (va_up (va_up X 5 (fl (X 5) 0 6 0)) 10 (fl (X 10) 0 3 0)) 15 (fl (X 15) 0 3 0)) 13 (fl (X 13) 0 9 0)) 14 (fl (X 14) 0 9 0)) S h6 := by
    rw [e6]
    exact w5.row (k := 14) (t := 0) (l := 9) (by decide) rfl rfl
  clear e6
  refine am_go_of 10 [5, 9, 13, 17, 21, 25, 28, 34] _ c_Run_reset_26 ?_
  simp (maxSteps := 2000000) (disch := omega) only [c_Run_reset_0, c_Run_reset_1, c_Run_reset_2, c_Run_reset_3, c_Run_reset_4, c_Run_reset_5, c_Run_reset_6, c_Run_reset_7, c_Run_reset_8, c_Run_reset_9, c_Run_reset_10, c_Run_reset_11, c_Run_reset_12, c_Run_reset_13, c_Run_reset_14, c_Run_reset_15, c_Run_reset_16, c_Run_reset_17, c_Run_reset_18, c_Run_reset_19, c_Run_reset_20, c_Run_reset_21, c_Run_reset_22, c_Run_reset_23, c_Run_reset_24, c_Run_reset_25, c_Run_reset_26, c_Run_reset_27, c_Run_reset_28, c_Run_reset_29, c_Run_reset_30, c_Run_reset_31, c_Run_reset_32, c_Run_reset_33, c_Run_reset_34, c_Run_reset_35, c_Run_reset_36, c_Run_reset_37, sx_aload_n, sx_bipush, sx_getfield, sx_goto, sx_iconst, sx_if_icmp_ge, sx_iinc, sx_iload_n, sx_istore_n, sx_putfield, sx_return, am_W_s, am_W_0, am_mm_some, List.mem_cons, or_false, false_or, or_self, or_true, true_or, reduceIte, if_false, if_true, am_o_some, am_o_none, am_o_bad, am_o_good, am_ldi_hit, am_ldi_miss, am_lda_hit, am_lda_miss, am_ldl_hit, am_ldl_miss, am_inc_eq, am_inc_hit, am_inc_miss, am_ob_hit, am_fd_0, am_fd_s, am_ai_hit, am_ab_3, am_al_hit, am_aq_4, am_al0_hit, am_put_1, am_put_2, am_put_put, am_up_hit, am_up_miss, am_s1_eq, am_s2_eq, am_fl_nil, am_fl_hit, am_fl_int, am_fl_ref, am_fl_long, am_fl_longx, am_fl2_nil, am_fl2_hit, am_fl2_hit1, am_fl2_int, am_fl2_ref, am_fl2_long, List.not_mem_nil, not_false_eq_true, ne_eq, Nat.reduceAdd, Nat.reduceEqDiff, Nat.zero_add, Nat.add_left_cancel_iff, List.set_cons_zero, List.set_cons_succ, List.length_cons, List.length_nil, Nat.reduceLT, am_ft_i, am_ft_r, am_ft_z, and_true, true_and, Option.toList_some, Option.toList_none, List.cons_append, List.nil_append, List.drop_succ_cons, List.drop_zero, iI_c, iI_b, iI_s, iI_n, iI_add, iI_sub, iI_mul, iI_neg, iI_nle, iI_ix, iI_eq0, iI_eq1, iI_lt0, iI_0lt, iI_le0, iI_0le, iI_eq, iI_lt, iI_le, iI_upd, iI_updZ, Int.reduceEq, Int.reduceLT, Int.reduceLE, Int.reduceNeg, Int.reduceNe, ru_fs_len, ru_f0, ru_f1, ru_f2, ru_f3, ru_f4, ru_f5, ru_f6, ru_f7, ru_f8, ru_f9, ru_f10, ru_f11, ru_f12, ru_f13, ru_s0, ru_t2, ru_l2, ru_t3, ru_l3, ru_t4, ru_l4, ru_t5, ru_l5, ru_t10, ru_l10, ru_t11, ru_l11, ru_t12, ru_l12, ru_t13, ru_l13, ru_t14, ru_l14, ru_t15, ru_l15, lo_fs_len, lo_f0, lo_f1, lo_s0, ty_fs_len, ty_f0, ty_f1, ty_f2, ty_f3, ty_f4, ty_f5, ty_f6, ty_f7, ty_f8, ty_f9, ty_s0, ty_t1, ty_l1, ty_t2, ty_l2, ty_t3, ty_l3, ty_t11, ty_l11, ty_t12, ty_l12, ty_t13, ty_l13, ty_t14, ty_l14, bo_fs_len, bo_f0, bo_f1, bo_f2, bo_f3, bo_f4, bo_f5, bo_f6, bo_f7, bo_f8, bo_s0, rw_hit]
  refine ((lp_reset d (by omega) p q w 0 0 S 6 0 h6 _ w6.1 (Int.le_refl _) (by decide)).mono (fun r0 h7 z => ?_)).lo (al_le_of (by simp) (by simp))
  obtain ⟨z0, X', w7, zf, zt⟩ := z
  refine ⟨z0, X', w6.tr w7, fun t ht => ?_, fun t ht => ?_, fun t i ht hi => ?_⟩
  · have y := (zt t).2 ht
    have e5 : X' 5 t = 0 := by
      rw [zf 5 (by decide) (by decide) (by decide) (by decide) (by decide) (by decide)]
      exact fl_in (g := X 5) ht
    have s0 : r_st (rz r) t = 0 := if_pos ht.1
    have i0 : r_in (rz r) t = -1 := rfl
    have l0 : r_ls (rz r) t = 0 := rfl
    have a0 : r_at (rz r) t = 0 := rfl
    rw [s0, i0, l0, a0]
    exact ⟨y.1, y.2.1.trans (by decide), e5, y.2.2.2.1.trans (by decide), y.2.2.2.2.1.trans (by decide), y.2.2.2.2.2, fun z => absurd z (by decide), fun _ => y.2.2.1⟩
  · have y13 := ((zt (6 + t)).1 (by omega)).2.2.2.2.1
    have y14 := ((zt (6 + t)).1 (by omega)).2.2.2.2.2
    refine ⟨?_, ?_, y13.trans (fl_in (g := X 13) ⟨by omega, by omega⟩), y14.trans (fl_in (g := X 14) ⟨by omega, by omega⟩)⟩
    · rw [zf 10 (by decide) (by decide) (by decide) (by decide) (by decide) (by decide)]
      exact fl_in (g := X 10) ht
    · rw [zf 15 (by decide) (by decide) (by decide) (by decide) (by decide) (by decide)]
      exact fl_in (g := X 15) ht
  · have : i < 0 := hi.2
    omega
