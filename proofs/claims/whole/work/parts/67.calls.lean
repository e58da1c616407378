theorem mt_TS_settle : am_MT[12]? = some m_TS_settle := rfl
theorem c_TS_settle_0 : c_TS_settle[0]? = some (0, 1, .aload_n 0, 0, 0, 0, 0, 0, []) := Eq.trans rfl rfl
theorem c_TS_settle_1 : c_TS_settle[1]? = some (1, 3, .getfield 12, 0, 0, 0, 0, 323, []) := Eq.trans rfl rfl
theorem c_TS_settle_2 : c_TS_settle[2]? = some (4, 3, .invokevirtual 203, 13, 1, 1, 0, 359, []) := Eq.trans rfl rfl
theorem c_TS_settle_3 : c_TS_settle[3]? = some (7, 1, .aload_n 0, 0, 0, 0, 0, 0, []) := Eq.trans rfl rfl
theorem c_TS_settle_4 : c_TS_settle[4]? = some (8, 3, .getfield 21, 0, 1, 0, 0, 324, []) := Eq.trans rfl rfl
theorem c_TS_settle_5 : c_TS_settle[5]? = some (11, 3, .invokevirtual 204, 17, 1, 2, 0, 376, []) := Eq.trans rfl rfl
theorem c_TS_settle_6 : c_TS_settle[6]? = some (14, 1, .aload_n 0, 0, 0, 0, 0, 0, []) := Eq.trans rfl rfl
theorem c_TS_settle_7 : c_TS_settle[7]? = some (15, 3, .invokevirtual 105, 19, 1, 0, 0, 385, []) := Eq.trans rfl rfl
theorem c_TS_settle_8 : c_TS_settle[8]? = some (18, 1, .return_, 0, 0, 0, 0, 0, []) := Eq.trans rfl rfl
/-! The class's house beside the reference's, by what it is made of. -/
/-- no bit of a guard beyond the ACTIONS -/
def gd_ok (B : Nat → Int → Int) : Prop := ∀ b : Int, 0 ≤ b ∧ b < 9 → B 52 b < 2 ^ (B 1 b).toNat
def hz_ok (I : Nat → Int) (F : Nat → Int → Int) (N : Int) (A : Nat → Int → Int) (R : Nat → Int → Int → Int) (M : Int) (B : Nat → Int → Int) (K : Nat → Int → Int → Int) : Prop := tb_ok I F N A R ∧ td_ok I F A R (I 0) ∧ bo_ok I (va_up F 17 (otb F (I 0).toNat)) M B K ∧ gd_ok B
theorem ts_ty {h h1 : am_H} {o : Nat} {v N N1 : Int} {A A1 : Nat → Int → Int} {R R1 : Nat → Int → Int → Int} {M : Int} {B : Nat → Int → Int} {K : Nat → Int → Int → Int} {n m : Int} {X : Nat → Int → Int} {S : Int → Int → Int} (T : ts_at h o v N A R M B K n m X S) (w : ty_to h (o + 1) N1 A1 R1 h1) : tt_to h o v N1 A1 R1 M B K n m X S h1 := by
  obtain ⟨t0, tO, E, H⟩ := T
  have fr : ∀ a, (a < o + 1 ∨ o + 1 + 21 < a) → h1.1 a = h.1 a := w.2.1
  obtain ⟨r0, rO, rG, rA, rB, rS⟩ := H
  exact ⟨⟨t0, (fr o (Or.inl (by omega))).trans tO, ⟨w.1, E.2.1.fr (fun a b _ => fr a (Or.inr (by omega))), E.2.2⟩, r0, (fr _ (by omega)).trans rO, (fr _ (by omega)).trans rG, fun k a b c => (fr _ (by omega)).trans (rA k a b c), (fr _ (by omega)).trans rB, fun z a b => (fr _ (by omega)).trans (rS z a b)⟩, fun a ha => fr a (by omega), w.2.2⟩
theorem ts_bo {h h1 : am_H} {o : Nat} {v N : Int} {A : Nat → Int → Int} {R : Nat → Int → Int → Int} {M M1 : Int} {B B1 : Nat → Int → Int} {K K1 : Nat → Int → Int → Int} {n m : Int} {X : Nat → Int → Int} {S : Int → Int → Int} (T : ts_at h o v N A R M B K n m X S) (w : bo_to h (o + 23) (o + 1) M1 B1 K1 h1) : tt_to h o v N A R M1 B1 K1 n m X S h1 := by
  obtain ⟨t0, tO, E, H⟩ := T
  have fr : ∀ a, (a < o + 23 ∨ o + 23 + 52 < a) → h1.1 a = h.1 a := w.2.1
  obtain ⟨r0, rO, rG, rA, rB, rS⟩ := H
  exact ⟨⟨t0, (fr o (Or.inl (by omega))).trans tO, ⟨E.1.fr (fun a _ b => fr a (Or.inl (by omega))), w.1, E.2.2⟩, r0, (fr _ (by omega)).trans rO, (fr _ (by omega)).trans rG, fun k a b c => (fr _ (by omega)).trans (rA k a b c), (fr _ (by omega)).trans rB, fun z a b => (fr _ (by omega)).trans (rS z a b)⟩, fun a ha => fr a (by omega), w.2.2⟩
set_option maxHeartbeats 8000000 in
theorem ct_TSsettle (d : Nat) (hd : 5 ≤ d) (h : am_H) (o : Nat) (v N : Int) (A : Nat → Int → Int) (R : Nat → Int → Int → Int) (M : Int) (B : Nat → Int → Int) (K : Nat → Int → Int → Int) (n m : Int) (X : Nat → Int → Int) (S : Int → Int → Int) (T : ts_at h o v N A R M B K n m X S) (I : Nat → Int) (F : Nat → Int → Int) (hr : md_rg I F) (hh : md_hs I F) (hbd : md_bd I F) (htb : tb_ok I F N A R) (hbb : bb_ok I F M B K) (hgd : gd_ok B) (r : rn) : am_Ct am_df am_MT d 12 [.ref o] h (fun r0 h' => r0 = none ∧ ∃ A' R' K' X', tt_to h o (-1) N A' R' M B K' 0 0 X' S h' ∧ hz_ok I F N A' R' M B K' ∧ ru_ok (rz r) X' S) := by
  have T' := T
  obtain ⟨t0, tO, E, H⟩ := T'
  have gO := E.1.2.1
  have hI := hr.1
  have hob := otb_ok hh (fun x hx => (hr.2.1 x ⟨by omega, by omega⟩).2.2.2.2.1) (I 0).toNat (by omega)
  obtain ⟨d, rfl⟩ : ∃ e, d = e + 1 := ⟨d - 1, by omega⟩
  refine am_ct_of2 mt_TS_settle (Nat.le_of_ble_eq_true rfl) ?_
  simp only [ar_nil, ar_int, ar_ref, ar_long, Nat.reduceAdd]
  refine am_go_of 10 [2, 5, 7] _ c_TS_settle_0 ?_
  simp (maxSteps := 2000000) (disch := omega) only [c_TS_settle_0, c_TS_settle_1, c_TS_settle_2, c_TS_settle_3, c_TS_settle_4, c_TS_settle_5, c_TS_settle_6, c_TS_settle_7, c_TS_settle_8, sx_aload_n, sx_getfield, sx_return, am_W_s, am_W_0, am_mm_some, List.mem_cons, or_false, false_or, or_self, or_true, true_or, reduceIte, if_false, if_true, am_o_some, am_o_none, am_o_bad, am_o_good, am_ldi_hit, am_ldi_miss, am_lda_hit, am_lda_miss, am_ldl_hit, am_ldl_miss, am_inc_eq, am_inc_hit, am_inc_miss, am_ob_hit, am_fd_0, am_fd_s, am_ai_hit, am_ab_3, am_al_hit, am_aq_4, am_al0_hit, am_put_1, am_put_2, am_put_put, am_up_hit, am_up_miss, am_s1_eq, am_s2_eq, am_fl_nil, am_fl_hit, am_fl_int, am_fl_ref, am_fl_long, am_fl_longx, am_fl2_nil, am_fl2_hit, am_fl2_hit1, am_fl2_int, am_fl2_ref, am_fl2_long, List.not_mem_nil, not_false_eq_true, ne_eq, Nat.reduceAdd, Nat.reduceEqDiff, Nat.zero_add, Nat.add_left_cancel_iff, List.set_cons_zero, List.set_cons_succ, List.length_cons, List.length_nil, Nat.reduceLT, am_ft_i, am_ft_r, am_ft_z, and_true, true_and, Option.toList_some, Option.toList_none, List.cons_append, List.nil_append, List.drop_succ_cons, List.drop_zero, iI_c, iI_b, iI_s, iI_n, iI_add, iI_sub, iI_mul, iI_neg, iI_nle, iI_ix, iI_eq0, iI_eq1, iI_lt0, iI_0lt, iI_le0, iI_0le, iI_eq, iI_lt, iI_le, iI_upd, iI_updZ, Int.reduceEq, Int.reduceLT, Int.reduceLE, Int.reduceNeg, Int.reduceNe, tO, ts_fs_len, ts_f0, ts_f1, ts_f2, ts_f3, ts_f4, ts_s4, ty_fs_len, ty_f0, ty_f1, ty_f2, ty_f3, ty_f4, ty_f5, ty_f6, ty_f7, ty_f8, ty_f9, ty_s0, ty_t1, ty_l1, ty_t2, ty_l2, ty_t3, ty_l3, ty_t11, ty_l11, ty_t12, ty_l12, ty_t13, ty_l13, ty_t14, ty_l14, bo_fs_len, bo_f0, bo_f1, bo_f2, bo_f3, bo_f4, bo_f5, bo_f6, bo_f7, bo_f8, bo_s0, ru_fs_len, ru_f0, ru_f1, ru_f2, ru_f3, ru_f4, ru_f5, ru_f6, ru_f7, ru_f8, ru_f9, ru_f10, ru_f11, ru_f12, ru_f13, ru_s0, ru_t2, ru_l2, ru_t3, ru_l3, ru_t4, ru_l4, ru_t5, ru_l5, ru_t10, ru_l10, ru_t11, ru_l11, ru_t12, ru_l12, ru_t13, ru_l13, ru_t14, ru_l14, ru_t15, ru_l15, lo_fs_len, lo_f0, lo_f1, lo_s0, rw_hit]
  refine am_go_call c_TS_settle_2 (by decide) (by decide) (by first | (simp [am_can, am_kd, Value.category, gO]; done) | (simp [am_can, am_kd, am_b, am_c, Value.category, gO]; done) | (simp (disch := omega) [am_can, am_kd, am_b, am_c, Value.category, am_put_1, am_up_hit, am_up_miss, gO]; done)) ?_
  refine (ct_Tysettle d (by omega) h (o + 1) I F hr hh N A R E.1 htb).mono (fun r9 h1 hr9 => ?_)
  obtain ⟨rfl, A1, R1, w1, tb1, td1⟩ := hr9
  have T1 := ts_ty T w1
  have T1' := T1.1
  obtain ⟨t10, tO1, E1, H1⟩ := T1'
  have bO1 := E1.2.1.2.1
  refine am_go_of 10 [2, 5, 7] _ c_TS_settle_3 ?_
  simp (maxSteps := 2000000) (disch := omega) only [c_TS_settle_0, c_TS_settle_1, c_TS_settle_2, c_TS_settle_3, c_TS_settle_4, c_TS_settle_5, c_TS_settle_6, c_TS_settle_7, c_TS_settle_8, sx_aload_n, sx_getfield, sx_return, am_W_s, am_W_0, am_mm_some, List.mem_cons, or_false, false_or, or_self, or_true, true_or, reduceIte, if_false, if_true, am_o_some, am_o_none, am_o_bad, am_o_good, am_ldi_hit, am_ldi_miss, am_lda_hit, am_lda_miss, am_ldl_hit, am_ldl_miss, am_inc_eq, am_inc_hit, am_inc_miss, am_ob_hit, am_fd_0, am_fd_s, am_ai_hit, am_ab_3, am_al_hit, am_aq_4, am_al0_hit, am_put_1, am_put_2, am_put_put, am_up_hit, am_up_miss, am_s1_eq, am_s2_eq, am_fl_nil, am_fl_hit, am_fl_int, am_fl_ref, am_fl_long, am_fl_longx, am_fl2_nil, am_fl2_hit, am_fl2_hit1, am_fl2_int, am_fl2_ref, am_fl2_long, List.not_mem_nil, not_false_eq_true, ne_eq, Nat.reduceAdd, Nat.reduceEqDiff, Nat.zero_add, Nat.add_left_cancel_iff, List.set_cons_zero, List.set_cons_succ, List.length_cons, List.length_nil, Nat.reduceLT, am_ft_i, am_ft_r, am_ft_z, and_true, true_and, Option.toList_some, Option.toList_none, List.cons_append, List.nil_append, List.drop_succ_cons, List.drop_zero, iI_c, iI_b, iI_s, iI_n, iI_add, iI_sub, iI_mul, iI_neg, iI_nle, iI_ix, iI_eq0, iI_eq1, iI_lt0, iI_0lt, iI_le0, iI_0le, iI_eq, iI_lt, iI_le, iI_upd, iI_updZ, Int.reduceEq, Int.reduceLT, Int.reduceLE, Int.reduceNeg, Int.reduceNe, tO1, ts_fs_len, ts_f0, ts_f1, ts_f2, ts_f3, ts_f4, ts_s4, ty_fs_len, ty_f0, ty_f1, ty_f2, ty_f3, ty_f4, ty_f5, ty_f6, ty_f7, ty_f8, ty_f9, ty_s0, ty_t1, ty_l1, ty_t2, ty_l2, ty_t3, ty_l3, ty_t11, ty_l11, ty_t12, ty_l12, ty_t13, ty_l13, ty_t14, ty_l14, bo_fs_len, bo_f0, bo_f1, bo_f2, bo_f3, bo_f4, bo_f5, bo_f6, bo_f7, bo_f8, bo_s0, ru_fs_len, ru_f0, ru_f1, ru_f2, ru_f3, ru_f4, ru_f5, ru_f6, ru_f7, ru_f8, ru_f9, ru_f10, ru_f11, ru_f12, ru_f13, ru_s0, ru_t2, ru_l2, ru_t3, ru_l3, ru_t4, ru_l4, ru_t5, ru_l5, ru_t10, ru_l10, ru_t11, ru_l11, ru_t12, ru_l12, ru_t13, ru_l13, ru_t14, ru_l14, ru_t15, ru_l15, lo_fs_len, lo_f0, lo_f1, lo_s0, rw_hit]
  refine am_go_call c_TS_settle_5 (by decide) (by decide) (by first | (simp [am_can, am_kd, Value.category, bO1]; done) | (simp [am_can, am_kd, am_b, am_c, Value.category, bO1]; done) | (simp (disch := omega) [am_can, am_kd, am_b, am_c, Value.category, am_put_1, am_up_hit, am_up_miss, bO1]; done)) ?_
  refine (ct_Bsettle d (by omega) h1 (o + 23) (o + 1) (by omega) I F hr N A1 R1 E1.1 tb1 (otb F (I 0).toNat) (fun x hx => ⟨(td1 x hx).1, by have := hob x ⟨hx.1, by omega⟩; omega⟩) M B K E1.2.1 hbb hbd).mono (fun r9 h2 hr9 => ?_)
  obtain ⟨rfl, K1, w2, hbo⟩ := hr9
  have T2 := ts_bo T1.1 w2
  have tO2 := T2.1.2.1
  refine am_go_of 10 [2, 5, 7] _ c_TS_settle_6 ?_
  simp (maxSteps := 2000000) (disch := omega) only [c_TS_settle_0, c_TS_settle_1, c_TS_settle_2, c_TS_settle_3, c_TS_settle_4, c_TS_settle_5, c_TS_settle_6, c_TS_settle_7, c_TS_settle_8, sx_aload_n, sx_getfield, sx_return, am_W_s, am_W_0, am_mm_some, List.mem_cons, or_false, false_or, or_self, or_true, true_or, reduceIte, if_false, if_true, am_o_some, am_o_none, am_o_bad, am_o_good, am_ldi_hit, am_ldi_miss, am_lda_hit, am_lda_miss, am_ldl_hit, am_ldl_miss, am_inc_eq, am_inc_hit, am_inc_miss, am_ob_hit, am_fd_0, am_fd_s, am_ai_hit, am_ab_3, am_al_hit, am_aq_4, am_al0_hit, am_put_1, am_put_2, am_put_put, am_up_hit, am_up_miss, am_s1_eq, am_s2_eq, am_fl_nil, am_fl_hit, am_fl_int, am_fl_ref, am_fl_long, am_fl_longx, am_fl2_nil, am_fl2_hit, am_fl2_hit1, am_fl2_int, am_fl2_ref, am_fl2_long, List.not_mem_nil, not_false_eq_true, ne_eq, Nat.reduceAdd, Nat.reduceEqDiff, Nat.zero_add, Nat.add_left_cancel_iff, List.set_cons_zero, List.set_cons_succ, List.length_cons, List.length_nil, Nat.reduceLT, am_ft_i, am_ft_r, am_ft_z, and_true, true_and, Option.toList_some, Option.toList_none, List.cons_append, List.nil_append, List.drop_succ_cons, List.drop_zero, iI_c, iI_b, iI_s, iI_n, iI_add, iI_sub, iI_mul, iI_neg, iI_nle, iI_ix, iI_eq0, iI_eq1, iI_lt0, iI_0lt, iI_le0, iI_0le, iI_eq, iI_lt, iI_le, iI_upd, iI_updZ, Int.reduceEq, Int.reduceLT, Int.reduceLE, Int.reduceNeg, Int.reduceNe, tO2, ts_fs_len, ts_f0, ts_f1, ts_f2, ts_f3, ts_f4, ts_s4, ty_fs_len, ty_f0, ty_f1, ty_f2, ty_f3, ty_f4, ty_f5, ty_f6, ty_f7, ty_f8, ty_f9, ty_s0, ty_t1, ty_l1, ty_t2, ty_l2, ty_t3, ty_l3, ty_t11, ty_l11, ty_t12, ty_l12, ty_t13, ty_l13, ty_t14, ty_l14, bo_fs_len, bo_f0, bo_f1, bo_f2, bo_f3, bo_f4, bo_f5, bo_f6, bo_f7, bo_f8, bo_s0, ru_fs_len, ru_f0, ru_f1, ru_f2, ru_f3, ru_f4, ru_f5, ru_f6, ru_f7, ru_f8, ru_f9, ru_f10, ru_f11, ru_f12, ru_f13, ru_s0, ru_t2, ru_l2, ru_t3, ru_l3, ru_t4, ru_l4, ru_t5, ru_l5, ru_t10, ru_l10, ru_t11, ru_l11, ru_t12, ru_l12, ru_t13, ru_l13, ru_t14, ru_l14, ru_t15, ru_l15, lo_fs_len, lo_f0, lo_f1, lo_s0, rw_hit]
  refine am_go_call c_TS_settle_7 (by decide) (by decide) (by first | (simp [am_can, am_kd, Value.category, tO2]; done) | (simp [am_can, am_kd, am_b, am_c, Value.category, tO2]; done) | (simp (disch := omega) [am_can, am_kd, am_b, am_c, Value.category, am_put_1, am_up_hit, am_up_miss, tO2]; done)) ?_
  refine (ct_startAnew d (by omega) h2 o v N A1 R1 M B K1 n m X S T2.1 r).mono (fun r9 h3 hr9 => ?_)
  obtain ⟨rfl, X', w3, ho⟩ := hr9
  refine am_go_of 5 [2, 5, 7] _ c_TS_settle_8 ?_
  simp (maxSteps := 2000000) (disch := omega) only [c_TS_settle_0, c_TS_settle_1, c_TS_settle_2, c_TS_settle_3, c_TS_settle_4, c_TS_settle_5, c_TS_settle_6, c_TS_settle_7, c_TS_settle_8, sx_aload_n, sx_getfield, sx_return, am_W_s, am_W_0, am_mm_some, List.mem_cons, or_false, false_or, or_self, or_true, true_or, reduceIte, if_false, if_true, am_o_some, am_o_none, am_o_bad, am_o_good, am_ldi_hit, am_ldi_miss, am_lda_hit, am_lda_miss, am_ldl_hit, am_ldl_miss, am_inc_eq, am_inc_hit, am_inc_miss, am_ob_hit, am_fd_0, am_fd_s, am_ai_hit, am_ab_3, am_al_hit, am_aq_4, am_al0_hit, am_put_1, am_put_2, am_put_put, am_up_hit, am_up_miss, am_s1_eq, am_s2_eq, am_fl_nil, am_fl_hit, am_fl_int, am_fl_ref, am_fl_long, am_fl_longx, am_fl2_nil, am_fl2_hit, am_fl2_hit1, am_fl2_int, am_fl2_ref, am_fl2_long, List.not_mem_nil, not_false_eq_true, ne_eq, Nat.reduceAdd, Nat.reduceEqDiff, Nat.zero_add, Nat.add_left_cancel_iff, List.set_cons_zero, List.set_cons_succ, List.length_cons, List.length_nil, Nat.reduceLT, am_ft_i, am_ft_r, am_ft_z, and_true, true_and, Option.toList_some, Option.toList_none, List.cons_append, List.nil_append, List.drop_succ_cons, List.drop_zero, iI_c, iI_b, iI_s, iI_n, iI_add, iI_sub, iI_mul, iI_neg, iI_nle, iI_ix, iI_eq0, iI_eq1, iI_lt0, iI_0lt, iI_le0, iI_0le, iI_eq, iI_lt, iI_le, iI_upd, iI_updZ, Int.reduceEq, Int.reduceLT, Int.reduceLE, Int.reduceNeg, Int.reduceNe, ts_fs_len, ts_f0, ts_f1, ts_f2, ts_f3, ts_f4, ts_s4, ty_fs_len, ty_f0, ty_f1, ty_f2, ty_f3, ty_f4, ty_f5, ty_f6, ty_f7, ty_f8, ty_f9, ty_s0, ty_t1, ty_l1, ty_t2, ty_l2, ty_t3, ty_l3, ty_t11, ty_l11, ty_t12, ty_l12, ty_t13, ty_l13, ty_t14, ty_l14, bo_fs_len, bo_f0, bo_f1, bo_f2, bo_f3, bo_f4, bo_f5, bo_f6, bo_f7, bo_f8, bo_s0, ru_fs_len, ru_f0, ru_f1, ru_f2, ru_f3, ru_f4, ru_f5, ru_f6, ru_f7, ru_f8, ru_f9, ru_f10, ru_f11, ru_f12, ru_f13, ru_s0, ru_t2, ru_l2, ru_t3, ru_l3, ru_t4, ru_l4, ru_t5, ru_l5, ru_t10, ru_l10, ru_t11, ru_l11, ru_t12, ru_l12, ru_t13, ru_l13, ru_t14, ru_l14, ru_t15, ru_l15, lo_fs_len, lo_f0, lo_f1, lo_s0, rw_hit]
  exact ⟨A1, R1, K1, X', (T1.tr T2).tr w3, ⟨tb1, td1, hbo, hgd⟩, ho⟩
theorem td_ty {I : Nat → Int} {F : Nat → Int → Int} {N : Int} {A : Nat → Int → Int} {R : Nat → Int → Int → Int} (hd : md_hd I F) (hl : rl_rg F) (hI : I 0 ≤ 6) (htb : tb_ok I F N A R) (htd : td_ok I F A R (I 0)) : ty_ok I F N A R := by
  refine ⟨htb.1, fun t ht => ?_⟩
  have b := htb.2 t ht
  have d := htd t ht
  have x := hd.1 t ht
  have l := hl.1 t ⟨by omega, by omega⟩
  have lw := d.2.1
  by_cases c : F 1 t = 0
  · have x1 := x.1 c
    have e := lst_eq (lw.2.1.trans x1.1.symm)
    have e12 : A 12 t = F 6 t := by have := lw.1; omega
    have e11 : A 11 t = A 12 t := d.2.2.trans (if_pos c)
    refine ⟨⟨b.1, b.2.1, d.1.trans (hd.2 t ht).symm, by omega, by omega, b.2.2.1, b.2.2.2.1⟩, fun i hi => ?_, fun i hi => by omega, b.2.2.2.2⟩
    have := e.2 i.toNat (by omega)
    rw [show ((i.toNat : Nat) : Int) = i by omega, Int.zero_add] at this
    exact this
  · have x1 := x.2 c
    have e := lst_eq (lw.2.1.trans x1.1.symm)
    have e12 : A 12 t = F 15 t := by have := lw.1; omega
    have e11 : A 11 t = 0 := d.2.2.trans (if_neg c)
    refine ⟨⟨b.1, b.2.1, d.1.trans (hd.2 t ht).symm, by omega, by omega, b.2.2.1, b.2.2.2.1⟩, fun i hi => by omega, fun i hi => ?_, b.2.2.2.2⟩
    have := e.2 i.toNat (by omega)
    rw [show ((i.toNat : Nat) : Int) = i by omega, Int.zero_add] at this
    exact this
/-- the reference's house was found anew, too: the two stand alike -/
theorem hz_ts {I : Nat → Int} {F0 F : Nat → Int → Int} {r : rn} {N : Int} {A : Nat → Int → Int} {R : Nat → Int → Int → Int} {M : Int} {B : Nat → Int → Int} {K : Nat → Int → Int → Int} {X : Nat → Int → Int} {S : Int → Int → Int} (hz : hz_ok I F0 N A R M B K) (hb : ba_fr F0 F) (ha : md_all (fs_I I) F (rz r)) (ho : ru_ok (rz r) X S) : ts_ok (fs_I I) F (rz r) N A R M B K 0 0 X S := by
  obtain ⟨⟨h13, hr, hwf, hv, hlg⟩, hhs, hhd, hrl, hbd, hI3, -⟩ := ha
  have e0 : fs_I I 0 = I 0 := rfl
  have e1 : fs_I I 1 = I 1 := rfl
  have hI := hr.1
  rw [e0, e1] at hI
  have q1 := hb 1 (by decide) (by decide) (by decide) (by decide) (by decide) (by decide)
  have q2 := hb 2 (by decide) (by decide) (by decide) (by decide) (by decide) (by decide)
  have q3 := hb 3 (by decide) (by decide) (by decide) (by decide) (by decide) (by decide)
  have q4 := hb 4 (by decide) (by decide) (by decide) (by decide) (by decide) (by decide)
  have q5 := hb 5 (by decide) (by decide) (by decide) (by decide) (by decide) (by decide)
  have q8 := hb 8 (by decide) (by decide) (by decide) (by decide) (by decide) (by decide)
  have q9 := hb 9 (by decide) (by decide) (by decide) (by decide) (by decide) (by decide)
  have q10 := hb 10 (by decide) (by decide) (by decide) (by decide) (by decide) (by decide)
  have q11 := hb 11 (by decide) (by decide) (by decide) (by decide) (by decide) (by decide)
  have q12 := hb 12 (by decide) (by decide) (by decide) (by decide) (by decide) (by decide)
  have et : tbl F (I 0).toNat = tbl F0 (I 0).toNat := tbl_congr _ (fun x hx => by
    rw [q1, q2, q3, q4]
    exact ⟨rfl, rfl, rfl, fun _ _ => rfl⟩)
  have eo : otb F (I 0).toNat = otb F0 (I 0).toNat := otb_congr _ (fun x hx => by
    rw [q5, q2, q3, q4]
    exact ⟨rfl, rfl, rfl, fun _ _ => rfl⟩)
  have htb : tb_ok (fs_I I) F N A R := by
    have := hz.1
    unfold tb_ok at *
    rw [e0, q1, q2, q3, q4, q5]
    exact this
  have htd : td_ok (fs_I I) F A R (fs_I I 0) := by
    have := hz.2.1
    unfold td_ok at *
    rw [e0, et, eo, q1]
    exact this
  refine ⟨td_ty hhd hrl (by rw [e0]; omega) htb htd, ?_, ho, rfl, rfl, fun j hj => by have : j < 3 * 0 := hj.2; omega⟩
  obtain ⟨m1, m2, m3, m4⟩ := hz.2.2.1
  refine ⟨m1, m2, fun b hb2 => ?_, m4⟩
  have g := m3 b hb2
  have u8 : va_up F0 17 (otb F0 (I 0).toNat) 8 = F0 8 := rfl
  have u9 : va_up F0 17 (otb F0 (I 0).toNat) 9 = F0 9 := rfl
  have u10 : va_up F0 17 (otb F0 (I 0).toNat) 10 = F0 10 := rfl
  have u11 : va_up F0 17 (otb F0 (I 0).toNat) 11 = F0 11 := rfl
  have u12 : va_up F0 17 (otb F0 (I 0).toNat) 12 = F0 12 := rfl
  rw [u8, u9, u10, u11, u12] at g
  rw [q8, q9, q10, q11, q12]
  refine ⟨g.1, fun k hk => ?_⟩
  have g2 := g.2 k hk
  have hb9 : 0 ≤ b ∧ b < 9 := by
    unfold is_bo at hb2
    rw [e0, e1] at hb2
    omega
  have e8 := hr.2.2.2.2.1 b hb9
  have ep := hr.2.2.2.2.2 (5 * b + k) ⟨by omega, by rw [q8] at e8; omega⟩
  have bd := hbd b k hb2 (by rw [q8]; exact hk)
  have ea : sp_asked F b k = sp_asked (va_up F0 17 (otb F0 (I 0).toNat)) b k := by
    have u1 : va_up F0 17 (otb F0 (I 0).toNat) 1 = F0 1 := rfl
    have u17 : va_up F0 17 (otb F0 (I 0).toNat) 17 = otb F0 (I 0).toNat := rfl
    unfold sp_asked
    rw [u1, u9, u10, u17, q1, q9, q10]
    by_cases c2 : 2 < F0 9 (5 * b + k)
    · rw [if_pos c2, if_pos c2]
    · rw [if_neg c2, if_neg c2]
      by_cases c3 : F0 9 (5 * b + k) = 2
      · rw [if_pos c3, if_pos c3]
      · have e17 : F 17 (F0 10 (5 * b + k)) = otb F0 (I 0).toNat (F0 10 (5 * b + k)) := by
          have := hhd.2 (F0 10 (5 * b + k)) (by
            rw [q9, q10] at bd
            rw [q9, q10] at ep
            exact ⟨by omega, bd.2 (by omega)⟩)
          rw [this, e0, eo]
        rw [if_neg c3, if_neg c3, e17]
  rw [ea]
  exact g2
