theorem mt_Arrays_fillJJ : am_MT[78]? = some m_Arrays_fillJJ := rfl
theorem c_Arrays_fillJJ_0 : c_Arrays_fillJJ[0]? = some (0, 1, .iconst 0, 0, 0, 0, 0, 0, []) := Eq.trans rfl rfl
theorem c_Arrays_fillJJ_1 : c_Arrays_fillJJ[1]? = some (1, 1, .istore_n 3, 3, 0, 0, 0, 0, []) := Eq.trans rfl rfl
theorem c_Arrays_fillJJ_2 : c_Arrays_fillJJ[2]? = some (2, 1, .aload_n 0, 0, 0, 0, 0, 0, []) := Eq.trans rfl rfl
theorem c_Arrays_fillJJ_3 : c_Arrays_fillJJ[3]? = some (3, 1, .arraylength, 0, 0, 0, 0, 0, []) := Eq.trans rfl rfl
theorem c_Arrays_fillJJ_4 : c_Arrays_fillJJ[4]? = some (4, 2, .istore 4, 4, 0, 0, 0, 0, []) := Eq.trans rfl rfl
theorem c_Arrays_fillJJ_5 : c_Arrays_fillJJ[5]? = some (6, 1, .iload_n 3, 3, 0, 0, 0, 0, []) := Eq.trans rfl rfl
theorem c_Arrays_fillJJ_6 : c_Arrays_fillJJ[6]? = some (7, 2, .iload 4, 4, 0, 0, 0, 0, []) := Eq.trans rfl rfl
theorem c_Arrays_fillJJ_7 : c_Arrays_fillJJ[7]? = some (9, 3, .if_icmp .ge 13, 14, 0, 0, 0, 0, []) := Eq.trans rfl rfl
theorem c_Arrays_fillJJ_8 : c_Arrays_fillJJ[8]? = some (12, 1, .aload_n 0, 0, 0, 0, 0, 0, []) := Eq.trans rfl rfl
theorem c_Arrays_fillJJ_9 : c_Arrays_fillJJ[9]? = some (13, 1, .iload_n 3, 3, 0, 0, 0, 0, []) := Eq.trans rfl rfl
theorem c_Arrays_fillJJ_10 : c_Arrays_fillJJ[10]? = some (14, 1, .lload_n 1, 1, 0, 0, 0, 0, []) := Eq.trans rfl rfl
theorem c_Arrays_fillJJ_11 : c_Arrays_fillJJ[11]? = some (15, 1, .lastore, 0, 0, 0, 0, 0, []) := Eq.trans rfl rfl
theorem c_Arrays_fillJJ_12 : c_Arrays_fillJJ[12]? = some (16, 3, .iinc 3 1, 0, 0, 0, 0, 0, []) := Eq.trans rfl rfl
theorem c_Arrays_fillJJ_13 : c_Arrays_fillJJ[13]? = some (19, 3, .goto (-13), 5, 0, 0, 0, 0, []) := Eq.trans rfl rfl
theorem c_Arrays_fillJJ_14 : c_Arrays_fillJJ[14]? = some (22, 1, .return_, 0, 0, 0, 0, 0, []) := Eq.trans rfl rfl
theorem mt_Points_empty : am_MT[77]? = some m_Points_empty := rfl
theorem c_Points_empty_0 : c_Points_empty[0]? = some (0, 1, .aload_n 0, 0, 0, 0, 0, 0, []) := Eq.trans rfl rfl
theorem c_Points_empty_1 : c_Points_empty[1]? = some (1, 1, .iconst 0, 0, 0, 0, 0, 0, []) := Eq.trans rfl rfl
theorem c_Points_empty_2 : c_Points_empty[2]? = some (2, 3, .putfield 11, 6, 0, 0, 0, 261, []) := Eq.trans rfl rfl
theorem c_Points_empty_3 : c_Points_empty[3]? = some (5, 1, .aload_n 0, 0, 0, 0, 0, 0, []) := Eq.trans rfl rfl
theorem c_Points_empty_4 : c_Points_empty[4]? = some (6, 3, .getfield 19, 6, 2, 0, 0, 265, []) := Eq.trans rfl rfl
theorem c_Points_empty_5 : c_Points_empty[5]? = some (9, 1, .lconst 0, 0, 0, 0, 0, 0, []) := Eq.trans rfl rfl
theorem c_Points_empty_6 : c_Points_empty[6]? = some (10, 3, .invokestatic 22, 78, 2, 0, 0, 627, []) := Eq.trans rfl rfl
theorem c_Points_empty_7 : c_Points_empty[7]? = some (13, 1, .return_, 0, 0, 0, 0, 0, []) := Eq.trans rfl rfl
theorem mt_Outcomes_empty : am_MT[79]? = some m_Outcomes_empty := rfl
theorem c_Outcomes_empty_0 : c_Outcomes_empty[0]? = some (0, 1, .aload_n 0, 0, 0, 0, 0, 0, []) := Eq.trans rfl rfl
theorem c_Outcomes_empty_1 : c_Outcomes_empty[1]? = some (1, 1, .iconst 0, 0, 0, 0, 0, 0, []) := Eq.trans rfl rfl
theorem c_Outcomes_empty_2 : c_Outcomes_empty[2]? = some (2, 3, .putfield 11, 7, 0, 0, 0, 280, []) := Eq.trans rfl rfl
theorem c_Outcomes_empty_3 : c_Outcomes_empty[3]? = some (5, 1, .aload_n 0, 0, 0, 0, 0, 0, []) := Eq.trans rfl rfl
theorem c_Outcomes_empty_4 : c_Outcomes_empty[4]? = some (6, 3, .getfield 26, 7, 4, 0, 0, 285, []) := Eq.trans rfl rfl
theorem c_Outcomes_empty_5 : c_Outcomes_empty[5]? = some (9, 1, .lconst 0, 0, 0, 0, 0, 0, []) := Eq.trans rfl rfl
theorem c_Outcomes_empty_6 : c_Outcomes_empty[6]? = some (10, 3, .invokestatic 29, 78, 2, 0, 0, 634, []) := Eq.trans rfl rfl
theorem c_Outcomes_empty_7 : c_Outcomes_empty[7]? = some (13, 1, .return_, 0, 0, 0, 0, 0, []) := Eq.trans rfl rfl
set_option maxHeartbeats 8000000 in
theorem lp_fillJ (d : Nat) (a : Nat) (ha : a ≠ 0) (L : Nat) (hL : L < 2000000) (v : Int) : ∀ (n : Nat) (i : Int) (h : am_H) (g : Int → Int), h.1 a = .inl (1, L, .inr (.inl (fun j : Nat => bz (g j)))) → 0 ≤ i → i + n = L → am_Go am_df am_MT d c_Arrays_fillJJ (5, [(4, .int (iI L)), (3, .int (iI i)), (0, .ref a), (1, .long (bz v))], [], h) (fun r0 h' => r0 = none ∧ h' = am_put h a (.inl (1, L, .inr (.inl (fun j : Nat => bz (fl g i L v j)))))) := by
  intro n
  induction n with
  | zero =>
    intro i h g hc h1 h2
    have e : i = L := by omega
    have c : (L : Int) ≤ L := Int.le_refl _
    rw [e, fl_e, am_put_same hc]
    refine am_go_of 10 [5] _ c_Arrays_fillJJ_5 ?_
    simp (maxSteps := 2000000) (disch := omega) only [c_Arrays_fillJJ_0, c_Arrays_fillJJ_1, c_Arrays_fillJJ_2, c_Arrays_fillJJ_3, c_Arrays_fillJJ_4, c_Arrays_fillJJ_5, c_Arrays_fillJJ_6, c_Arrays_fillJJ_7, c_Arrays_fillJJ_8, c_Arrays_fillJJ_9, c_Arrays_fillJJ_10, c_Arrays_fillJJ_11, c_Arrays_fillJJ_12, c_Arrays_fillJJ_13, c_Arrays_fillJJ_14, sx_aload_n, sx_arraylength, sx_goto, sx_iconst, sx_if_icmp_ge, sx_iinc, sx_iload, sx_iload_n, sx_istore, sx_istore_n, sx_lastore, sx_lload_n, sx_return, am_W_s, am_W_0, am_mm_some, List.mem_cons, or_false, false_or, or_self, or_true, true_or, reduceIte, if_false, if_true, am_o_some, am_o_none, am_o_bad, am_o_good, am_ldi_hit, am_ldi_miss, am_lda_hit, am_lda_miss, am_ldl_hit, am_ldl_miss, am_inc_eq, am_inc_hit, am_inc_miss, am_ob_hit, am_fd_0, am_fd_s, am_ai_hit, am_ab_3, am_al_hit, am_aq_4, am_al0_hit, am_put_1, am_put_2, am_put_put, am_up_hit, am_up_miss, am_s1_eq, am_s2_eq, am_fl_nil, am_fl_hit, am_fl_int, am_fl_ref, am_fl_long, am_fl_longx, am_fl2_nil, am_fl2_hit, am_fl2_hit1, am_fl2_int, am_fl2_ref, am_fl2_long, List.not_mem_nil, not_false_eq_true, ne_eq, Nat.reduceAdd, Nat.reduceEqDiff, Nat.zero_add, Nat.add_left_cancel_iff, List.set_cons_zero, List.set_cons_succ, List.length_cons, List.length_nil, Nat.reduceLT, am_ft_i, am_ft_r, am_ft_z, and_true, true_and, Option.toList_some, Option.toList_none, List.cons_append, List.nil_append, List.drop_succ_cons, List.drop_zero, iI_c, iI_b, iI_s, iI_n, iI_add, iI_sub, iI_mul, iI_neg, iI_nle, iI_ix, iI_eq0, iI_eq1, iI_lt0, iI_0lt, iI_le0, iI_0le, iI_eq, iI_lt, iI_le, iI_upd, iI_updZ, Int.reduceEq, Int.reduceLT, Int.reduceLE, Int.reduceNeg, Int.reduceNe, c, rw_hit]
    all_goals (first | omega | rfl | trivial)
  | succ n ih =>
    intro i h g hc h1 h2
    have c : ¬ (L : Int) ≤ i := by omega
    have g2 := ih (i + 1) (am_put h a (.inl (1, L, .inr (.inl (fun j : Nat => bz (vI g i v j)))))) (vI g i v) (by rw [am_put_1, am_up_hit]) (by omega) (by omega)
    rw [fl_s (by omega), am_put_put] at g2
    refine am_go_of 20 [5] _ c_Arrays_fillJJ_5 ?_
    simp (maxSteps := 2000000) (disch := omega) only [c_Arrays_fillJJ_0, c_Arrays_fillJJ_1, c_Arrays_fillJJ_2, c_Arrays_fillJJ_3, c_Arrays_fillJJ_4, c_Arrays_fillJJ_5, c_Arrays_fillJJ_6, c_Arrays_fillJJ_7, c_Arrays_fillJJ_8, c_Arrays_fillJJ_9, c_Arrays_fillJJ_10, c_Arrays_fillJJ_11, c_Arrays_fillJJ_12, c_Arrays_fillJJ_13, c_Arrays_fillJJ_14, sx_aload_n, sx_arraylength, sx_goto, sx_iconst, sx_if_icmp_ge, sx_iinc, sx_iload, sx_iload_n, sx_istore, sx_istore_n, sx_lastore, sx_lload_n, sx_return, am_W_s, am_W_0, am_mm_some, List.mem_cons, or_false, false_or, or_self, or_true, true_or, reduceIte, if_false, if_true, am_o_some, am_o_none, am_o_bad, am_o_good, am_ldi_hit, am_ldi_miss, am_lda_hit, am_lda_miss, am_ldl_hit, am_ldl_miss, am_inc_eq, am_inc_hit, am_inc_miss, am_ob_hit, am_fd_0, am_fd_s, am_ai_hit, am_ab_3, am_al_hit, am_aq_4, am_al0_hit, am_put_1, am_put_2, am_put_put, am_up_hit, am_up_miss, am_s1_eq, am_s2_eq, am_fl_nil, am_fl_hit, am_fl_int, am_fl_ref, am_fl_long, am_fl_longx, am_fl2_nil, am_fl2_hit, am_fl2_hit1, am_fl2_int, am_fl2_ref, am_fl2_long, List.not_mem_nil, not_false_eq_true, ne_eq, Nat.reduceAdd, Nat.reduceEqDiff, Nat.zero_add, Nat.add_left_cancel_iff, List.set_cons_zero, List.set_cons_succ, List.length_cons, List.length_nil, Nat.reduceLT, am_ft_i, am_ft_r, am_ft_z, and_true, true_and, Option.toList_some, Option.toList_none, List.cons_append, List.nil_append, List.drop_succ_cons, List.drop_zero, iI_c, iI_b, iI_s, iI_n, iI_add, iI_sub, iI_mul, iI_neg, iI_nle, iI_ix, iI_eq0, iI_eq1, iI_lt0, iI_0lt, iI_le0, iI_0le, iI_eq, iI_lt, iI_le, iI_upd, iI_updZ, Int.reduceEq, Int.reduceLT, Int.reduceLE, Int.reduceNeg, Int.reduceNe, c, hc, ha, bz_upd, rw_hit]
    repeat (refine And.intro (by omega) ?_)
    exact g2.lo (al_le_of (by simp) (by simp))
set_option maxHeartbeats 8000000 in
theorem ct_fillJ (d : Nat) (hd : 1 ≤ d) (h : am_H) (a : Nat) (ha : a ≠ 0) (L : Nat) (hL : L < 2000000) (v : Int) (g : Int → Int) (hc : h.1 a = .inl (1, L, .inr (.inl (fun j : Nat => bz (g j))))) : am_Ct am_df am_MT d 78 [.ref a, .long (bz v)] h (fun r0 h' => r0 = none ∧ h' = am_put h a (.inl (1, L, .inr (.inl (fun j : Nat => bz (fl g 0 L v j)))))) := by
  obtain ⟨d, rfl⟩ : ∃ e, d = e + 1 := ⟨d - 1, by omega⟩
  refine am_ct_of2 mt_Arrays_fillJJ (Nat.le_of_ble_eq_true rfl) ?_
  simp only [ar_nil, ar_int, ar_ref, ar_long, Nat.reduceAdd]
  refine am_go_of 10 [5] _ c_Arrays_fillJJ_0 ?_
  simp (maxSteps := 2000000) (disch := omega) only [c_Arrays_fillJJ_0, c_Arrays_fillJJ_1, c_Arrays_fillJJ_2, c_Arrays_fillJJ_3, c_Arrays_fillJJ_4, c_Arrays_fillJJ_5, c_Arrays_fillJJ_6, c_Arrays_fillJJ_7, c_Arrays_fillJJ_8, c_Arrays_fillJJ_9, c_Arrays_fillJJ_10, c_Arrays_fillJJ_11, c_Arrays_fillJJ_12, c_Arrays_fillJJ_13, c_Arrays_fillJJ_14, sx_aload_n, sx_arraylength, sx_goto, sx_iconst, sx_if_icmp_ge, sx_iinc, sx_iload, sx_iload_n, sx_istore, sx_istore_n, sx_lastore, sx_lload_n, sx_return, am_W_s, am_W_0, am_mm_some, List.mem_cons, or_false, false_or, or_self, or_true, true_or, reduceIte, if_false, if_true, am_o_some, am_o_none, am_o_bad, am_o_good, am_ldi_hit, am_ldi_miss, am_lda_hit, am_lda_miss, am_ldl_hit, am_ldl_miss, am_inc_eq, am_inc_hit, am_inc_miss, am_ob_hit, am_fd_0, am_fd_s, am_ai_hit, am_ab_3, am_al_hit, am_aq_4, am_al0_hit, am_put_1, am_put_2, am_put_put, am_up_hit, am_up_miss, am_s1_eq, am_s2_eq, am_fl_nil, am_fl_hit, am_fl_int, am_fl_ref, am_fl_long, am_fl_longx, am_fl2_nil, am_fl2_hit, am_fl2_hit1, am_fl2_int, am_fl2_ref, am_fl2_long, List.not_mem_nil, not_false_eq_true, ne_eq, Nat.reduceAdd, Nat.reduceEqDiff, Nat.zero_add, Nat.add_left_cancel_iff, List.set_cons_zero, List.set_cons_succ, List.length_cons, List.length_nil, Nat.reduceLT, am_ft_i, am_ft_r, am_ft_z, and_true, true_and, Option.toList_some, Option.toList_none, List.cons_append, List.nil_append, List.drop_succ_cons, List.drop_zero, iI_c, iI_b, iI_s, iI_n, iI_add, iI_sub, iI_mul, iI_neg, iI_nle, iI_ix, iI_eq0, iI_eq1, iI_lt0, iI_0lt, iI_le0, iI_0le, iI_eq, iI_lt, iI_le, iI_upd, iI_updZ, Int.reduceEq, Int.reduceLT, Int.reduceLE, Int.reduceNeg, Int.reduceNe, hc, rw_hit]
  exact (lp_fillJ d a ha L hL v L 0 h g hc (Int.le_refl _) (by omega)).lo (al_le_of (by simp) (by simp))
theorem sl4_z (j : Int) : sl4 (fun _ => 0) j = 0 := by
  show (0 : Int) + 0 * 65536 + 0 * 4294967296 + 0 * 281474976710656 = 0
  decide
theorem fl_sl4 {G : Int → Int} (h : ∀ i : Int, ¬ (0 ≤ i ∧ i < 4096) → G i = 0) : (fun j : Nat => bz (fl (sl4 G) 0 (1024 : Nat) 0 j)) = fun j : Nat => bz (sl4 (fun _ => 0) j) := by
  funext j
  rw [sl4_z]
  unfold fl
  split
  · rfl
  · rename_i c
    have e : sl4 G (j : Int) = 0 := by
      unfold sl4
      rw [h _ (by omega), h _ (by omega), h _ (by omega), h _ (by omega)]
      omega
    rw [e]
theorem nz_0 : ∀ n : Nat, nz (fun _ => 0) n = 0 := by
  intro n
  induction n with
  | zero => rfl
  | succ n ih =>
    unfold nz
    rw [ih, if_pos rfl]
    rfl
theorem po_ok_0 {L : Int → Int} (hL : ∀ j, 0 ≤ L j ∧ L j < 9223372036854775808) : po_ok 0 L (fun _ => 0) := ⟨by decide, hL, fun _ => ⟨(by decide : (0 : Int) ≤ 0 ∧ (0 : Int) ≤ 0), fun _ => rfl⟩, nz_0 4096, fun k hk => by omega⟩
set_option maxHeartbeats 8000000 in
theorem ct_pempty (d : Nat) (hd : 2 ≤ d) (h : am_H) (u : Nat) (c : Int) (L G : Int → Int) (H : po_at h u c L G) (hG : ∀ i : Int, ¬ (0 ≤ i ∧ i < 4096) → G i = 0) : am_Ct am_df am_MT d 77 [.ref u] h (fun r0 h' => r0 = none ∧ po_at h' u 0 L (fun _ => 0) ∧ (∀ a, (a < u ∨ u + 2 < a) → h'.1 a = h.1 a) ∧ h'.2 = h.2) := by
  obtain ⟨u0, hO, hL, hS⟩ := H
  have hS2 : (am_put h u (.inr (6, po_fs u 0))).1 (u + 2) = .inl (1, 1024, .inr (.inl (fun j : Nat => bz (sl4 G j)))) := (am_up_miss (by omega)).trans hS
  obtain ⟨d, rfl⟩ : ∃ e, d = e + 1 := ⟨d - 1, by omega⟩
  refine am_ct_of2 mt_Points_empty (Nat.le_of_ble_eq_true rfl) ?_
  simp only [ar_nil, ar_int, ar_ref, ar_long, Nat.reduceAdd]
  refine am_go_of 10 [6] _ c_Points_empty_0 ?_
  simp (maxSteps := 2000000) (disch := omega) only [c_Points_empty_0, c_Points_empty_1, c_Points_empty_2, c_Points_empty_3, c_Points_empty_4, c_Points_empty_5, c_Points_empty_6, c_Points_empty_7, sx_aload_n, sx_getfield, sx_iconst, sx_lconst, sx_putfield, sx_return, am_W_s, am_W_0, am_mm_some, List.mem_cons, or_false, false_or, or_self, or_true, true_or, reduceIte, if_false, if_true, am_o_some, am_o_none, am_o_bad, am_o_good, am_ldi_hit, am_ldi_miss, am_lda_hit, am_lda_miss, am_ldl_hit, am_ldl_miss, am_inc_eq, am_inc_hit, am_inc_miss, am_ob_hit, am_fd_0, am_fd_s, am_ai_hit, am_ab_3, am_al_hit, am_aq_4, am_al0_hit, am_put_1, am_put_2, am_put_put, am_up_hit, am_up_miss, am_s1_eq, am_s2_eq, am_fl_nil, am_fl_hit, am_fl_int, am_fl_ref, am_fl_long, am_fl_longx, am_fl2_nil, am_fl2_hit, am_fl2_hit1, am_fl2_int, am_fl2_ref, am_fl2_long, List.not_mem_nil, not_false_eq_true, ne_eq, Nat.reduceAdd, Nat.reduceEqDiff, Nat.zero_add, Nat.add_left_cancel_iff, List.set_cons_zero, List.set_cons_succ, List.length_cons, List.length_nil, Nat.reduceLT, am_ft_i, am_ft_r, am_ft_z, and_true, true_and, Option.toList_some, Option.toList_none, List.cons_append, List.nil_append, List.drop_succ_cons, List.drop_zero, iI_c, iI_b, iI_s, iI_n, iI_add, iI_sub, iI_mul, iI_neg, iI_nle, iI_ix, iI_eq0, iI_eq1, iI_lt0, iI_0lt, iI_le0, iI_0le, iI_eq, iI_lt, iI_le, iI_upd, iI_updZ, Int.reduceEq, Int.reduceLT, Int.reduceLE, Int.reduceNeg, Int.reduceNe, hO, bz_0, po_fs_len, po_f0, po_f1, po_f2, po_s0, rw_hit]
  refine am_go_call c_Points_empty_6 (by decide) (by decide) (by first | (simp [am_can, am_kd, Value.category, hS2, hS]; done) | (simp [am_can, am_kd, am_b, am_c, Value.category, hS2, hS]; done) | (simp (disch := omega) [am_can, am_kd, am_b, am_c, Value.category, am_put_1, am_up_hit, am_up_miss, hS2, hS]; done)) ?_
  refine (ct_fillJ d (by omega) _ (u + 2) (by omega) 1024 (by decide) 0 (sl4 G) hS2).mono (fun r9 h1 hr9 => ?_)
  obtain ⟨rfl, rfl⟩ := hr9
  rw [fl_sl4 hG]
  have g : po_at (am_put (am_put h u (.inr (6, po_fs u 0))) (u + 2) (.inl (1, 1024, .inr (.inl (fun j : Nat => bz (sl4 (fun _ => 0) j)))))) u 0 L (fun _ => 0) ∧ (∀ a, (a < u ∨ u + 2 < a) → (am_put (am_put h u (.inr (6, po_fs u 0))) (u + 2) (.inl (1, 1024, .inr (.inl (fun j : Nat => bz (sl4 (fun _ => 0) j)))))).1 a = h.1 a) := by
    refine ⟨⟨u0, ?_, ?_, ?_⟩, fun a ha => ?_⟩
    · rw [am_put_1, am_up_miss (by omega), am_put_1, am_up_hit]
    · rw [am_put_1, am_up_miss (by omega), am_put_1, am_up_miss (by omega)]
      exact hL
    · rw [am_put_1, am_up_hit]
    · rw [am_put_1, am_up_miss (by omega), am_put_1, am_up_miss (by omega)]
  have g2 : (am_put (am_put h u (.inr (6, po_fs u 0))) (u + 2) (.inl (1, 1024, .inr (.inl (fun j : Nat => bz (sl4 (fun _ => 0) j)))))).2 = h.2 := rfl
  generalize am_put (am_put h u (.inr (6, po_fs u 0))) (u + 2) (.inl (1, 1024, .inr (.inl (fun j : Nat => bz (sl4 (fun _ => 0) j))))) = h9 at *
  have gg := And.intro g.1 (And.intro g.2 g2)
  clear g g2
  refine am_go_of 10 [6] _ c_Points_empty_7 ?_
  simp (maxSteps := 2000000) (disch := omega) only [c_Points_empty_0, c_Points_empty_1, c_Points_empty_2, c_Points_empty_3, c_Points_empty_4, c_Points_empty_5, c_Points_empty_6, c_Points_empty_7, sx_aload_n, sx_getfield, sx_iconst, sx_lconst, sx_putfield, sx_return, am_W_s, am_W_0, am_mm_some, List.mem_cons, or_false, false_or, or_self, or_true, true_or, reduceIte, if_false, if_true, am_o_some, am_o_none, am_o_bad, am_o_good, am_ldi_hit, am_ldi_miss, am_lda_hit, am_lda_miss, am_ldl_hit, am_ldl_miss, am_inc_eq, am_inc_hit, am_inc_miss, am_ob_hit, am_fd_0, am_fd_s, am_ai_hit, am_ab_3, am_al_hit, am_aq_4, am_al0_hit, am_put_1, am_put_2, am_put_put, am_up_hit, am_up_miss, am_s1_eq, am_s2_eq, am_fl_nil, am_fl_hit, am_fl_int, am_fl_ref, am_fl_long, am_fl_longx, am_fl2_nil, am_fl2_hit, am_fl2_hit1, am_fl2_int, am_fl2_ref, am_fl2_long, List.not_mem_nil, not_false_eq_true, ne_eq, Nat.reduceAdd, Nat.reduceEqDiff, Nat.zero_add, Nat.add_left_cancel_iff, List.set_cons_zero, List.set_cons_succ, List.length_cons, List.length_nil, Nat.reduceLT, am_ft_i, am_ft_r, am_ft_z, and_true, true_and, Option.toList_some, Option.toList_none, List.cons_append, List.nil_append, List.drop_succ_cons, List.drop_zero, iI_c, iI_b, iI_s, iI_n, iI_add, iI_sub, iI_mul, iI_neg, iI_nle, iI_ix, iI_eq0, iI_eq1, iI_lt0, iI_0lt, iI_le0, iI_0le, iI_eq, iI_lt, iI_le, iI_upd, iI_updZ, Int.reduceEq, Int.reduceLT, Int.reduceLE, Int.reduceNeg, Int.reduceNe, po_fs_len, po_f0, po_f1, po_f2, po_s0, rw_hit]
  exact gg
theorem wl_z : ∀ (n : Nat) (b : Int), wl (fun _ => 0) n b = 0 := by
  intro n
  induction n with
  | zero => exact fun _ => rfl
  | succ n ih =>
    intro b
    unfold wl
    rw [ih]
    rfl
theorem wl_zz {V : Int → Int} : ∀ (n : Nat) (b : Int), (∀ g : Int, b ≤ g → V g = 0) → wl V n b = 0 := by
  intro n
  induction n with
  | zero => exact fun _ _ => rfl
  | succ n ih =>
    intro b h
    unfold wl
    rw [ih (b + 1) (fun g hg => h g (by omega)), h b (Int.le_refl _)]
    rfl
theorem fl_ww {V : Int → Int} (h : ∀ g : Int, 5760 ≤ g → V g = 0) : (fun j : Nat => bz (fl (ww V) 0 (180 : Nat) 0 j)) = fun j : Nat => bz (ww (fun _ => 0) j) := by
  funext j
  have e0 : ww (fun _ => 0) (j : Int) = 0 := wl_z 32 _
  rw [e0]
  unfold fl
  split
  · rfl
  · rename_i c
    have e : ww V (j : Int) = 0 := wl_zz 32 _ (fun g hg => h g (by omega))
    rw [e]
set_option maxHeartbeats 8000000 in
theorem ct_oempty (d : Nat) (hd : 2 ≤ d) (h : am_H) (y : Nat) (c : Int) (P O Ln V : Int → Int) (H : ou_at h y c P O Ln V) (hV : ∀ g : Int, 5760 ≤ g → V g = 0) : am_Ct am_df am_MT d 79 [.ref y] h (fun r0 h' => r0 = none ∧ ou_to h y 0 P O Ln (fun _ => 0) h') := by
  have w1 := H.rf.ct (c1 := 0)
  have hO := H.2.1
  have hS := H.2.2.2.2.2
  have hS2 := w1.1.2.2.2.2.2
  have w2 := w1.wt (V1 := fun _ => 0)
  obtain ⟨d, rfl⟩ : ∃ e, d = e + 1 := ⟨d - 1, by omega⟩
  refine am_ct_of2 mt_Outcomes_empty (Nat.le_of_ble_eq_true rfl) ?_
  simp only [ar_nil, ar_int, ar_ref, ar_long, Nat.reduceAdd]
  refine am_go_of 10 [6] _ c_Outcomes_empty_0 ?_
  simp (maxSteps := 2000000) (disch := omega) only [c_Outcomes_empty_0, c_Outcomes_empty_1, c_Outcomes_empty_2, c_Outcomes_empty_3, c_Outcomes_empty_4, c_Outcomes_empty_5, c_Outcomes_empty_6, c_Outcomes_empty_7, sx_aload_n, sx_getfield, sx_iconst, sx_lconst, sx_putfield, sx_return, am_W_s, am_W_0, am_mm_some, List.mem_cons, or_false, false_or, or_self, or_true, true_or, reduceIte, if_false, if_true, am_o_some, am_o_none, am_o_bad, am_o_good, am_ldi_hit, am_ldi_miss, am_lda_hit, am_lda_miss, am_ldl_hit, am_ldl_miss, am_inc_eq, am_inc_hit, am_inc_miss, am_ob_hit, am_fd_0, am_fd_s, am_ai_hit, am_ab_3, am_al_hit, am_aq_4, am_al0_hit, am_put_1, am_put_2, am_put_put, am_up_hit, am_up_miss, am_s1_eq, am_s2_eq, am_fl_nil, am_fl_hit, am_fl_int, am_fl_ref, am_fl_long, am_fl_longx, am_fl2_nil, am_fl2_hit, am_fl2_hit1, am_fl2_int, am_fl2_ref, am_fl2_long, List.not_mem_nil, not_false_eq_true, ne_eq, Nat.reduceAdd, Nat.reduceEqDiff, Nat.zero_add, Nat.add_left_cancel_iff, List.set_cons_zero, List.set_cons_succ, List.length_cons, List.length_nil, Nat.reduceLT, am_ft_i, am_ft_r, am_ft_z, and_true, true_and, Option.toList_some, Option.toList_none, List.cons_append, List.nil_append, List.drop_succ_cons, List.drop_zero, iI_c, iI_b, iI_s, iI_n, iI_add, iI_sub, iI_mul, iI_neg, iI_nle, iI_ix, iI_eq0, iI_eq1, iI_lt0, iI_0lt, iI_le0, iI_0le, iI_eq, iI_lt, iI_le, iI_upd, iI_updZ, Int.reduceEq, Int.reduceLT, Int.reduceLE, Int.reduceNeg, Int.reduceNe, hO, bz_0, ou_fs_len, ou_f0, ou_f1, ou_f2, ou_f3, ou_f4, ou_s0, rw_hit]
  refine am_go_call c_Outcomes_empty_6 (by decide) (by decide) (by first | (simp [am_can, am_kd, Value.category, hS2, hS]; done) | (simp [am_can, am_kd, am_b, am_c, Value.category, hS2, hS]; done) | (simp (disch := omega) [am_can, am_kd, am_b, am_c, Value.category, am_put_1, am_up_hit, am_up_miss, hS2, hS]; done)) ?_
  refine (ct_fillJ d (by omega) _ (y + 4) (by omega) 180 (by decide) 0 (ww V) hS2).mono (fun r9 h1 hr9 => ?_)
  obtain ⟨rfl, rfl⟩ := hr9
  rw [fl_ww hV]
  generalize am_put (am_put h y (.inr (7, ou_fs y 0))) (y + 4) (.inl (1, 180, .inr (.inl (fun j : Nat => bz (ww (fun _ => 0) j))))) = h9 at *
  refine am_go_of 10 [6] _ c_Outcomes_empty_7 ?_
  simp (maxSteps := 2000000) (disch := omega) only [c_Outcomes_empty_0, c_Outcomes_empty_1, c_Outcomes_empty_2, c_Outcomes_empty_3, c_Outcomes_empty_4, c_Outcomes_empty_5, c_Outcomes_empty_6, c_Outcomes_empty_7, sx_aload_n, sx_getfield, sx_iconst, sx_lconst, sx_putfield, sx_return, am_W_s, am_W_0, am_mm_some, List.mem_cons, or_false, false_or, or_self, or_true, true_or, reduceIte, if_false, if_true, am_o_some, am_o_none, am_o_bad, am_o_good, am_ldi_hit, am_ldi_miss, am_lda_hit, am_lda_miss, am_ldl_hit, am_ldl_miss, am_inc_eq, am_inc_hit, am_inc_miss, am_ob_hit, am_fd_0, am_fd_s, am_ai_hit, am_ab_3, am_al_hit, am_aq_4, am_al0_hit, am_put_1, am_put_2, am_put_put, am_up_hit, am_up_miss, am_s1_eq, am_s2_eq, am_fl_nil, am_fl_hit, am_fl_int, am_fl_ref, am_fl_long, am_fl_longx, am_fl2_nil, am_fl2_hit, am_fl2_hit1, am_fl2_int, am_fl2_ref, am_fl2_long, List.not_mem_nil, not_false_eq_true, ne_eq, Nat.reduceAdd, Nat.reduceEqDiff, Nat.zero_add, Nat.add_left_cancel_iff, List.set_cons_zero, List.set_cons_succ, List.length_cons, List.length_nil, Nat.reduceLT, am_ft_i, am_ft_r, am_ft_z, and_true, true_and, Option.toList_some, Option.toList_none, List.cons_append, List.nil_append, List.drop_succ_cons, List.drop_zero, iI_c, iI_b, iI_s, iI_n, iI_add, iI_sub, iI_mul, iI_neg, iI_nle, iI_ix, iI_eq0, iI_eq1, iI_lt0, iI_0lt, iI_le0, iI_0le, iI_eq, iI_lt, iI_le, iI_upd, iI_updZ, Int.reduceEq, Int.reduceLT, Int.reduceLE, Int.reduceNeg, Int.reduceNe, ou_fs_len, ou_f0, ou_f1, ou_f2, ou_f3, ou_f4, ou_s0, rw_hit]
  exact w2
