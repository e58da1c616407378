theorem mt_TS_makeStep : am_MT[45]? = some m_TS_makeStep := rfl
theorem c_TS_makeStep_0 : c_TS_makeStep[0]? = some (0, 1, .aload_n 0, 0, 0, 0, 0, 0, []) := Eq.trans rfl rfl
theorem c_TS_makeStep_1 : c_TS_makeStep[1]? = some (1, 3, .getfield 30, 0, 2, 0, 0, 325, []) := Eq.trans rfl rfl
theorem c_TS_makeStep_2 : c_TS_makeStep[2]? = some (4, 1, .iload_n 1, 1, 0, 0, 0, 0, []) := Eq.trans rfl rfl
theorem c_TS_makeStep_3 : c_TS_makeStep[3]? = some (5, 3, .invokevirtual 208, 46, 2, 3, 0, 494, []) := Eq.trans rfl rfl
theorem c_TS_makeStep_4 : c_TS_makeStep[4]? = some (8, 1, .aload_n 0, 0, 0, 0, 0, 0, []) := Eq.trans rfl rfl
theorem c_TS_makeStep_5 : c_TS_makeStep[5]? = some (9, 1, .iconst (-1), 0, 0, 0, 0, 0, []) := Eq.trans rfl rfl
theorem c_TS_makeStep_6 : c_TS_makeStep[6]? = some (10, 3, .putfield 41, 0, 4, 0, 0, 327, []) := Eq.trans rfl rfl
theorem c_TS_makeStep_7 : c_TS_makeStep[7]? = some (13, 1, .return_, 0, 0, 0, 0, 0, []) := Eq.trans rfl rfl
theorem mt_TS_turn : am_MT[39]? = some m_TS_turn := rfl
theorem c_TS_turn_0 : c_TS_turn[0]? = some (0, 1, .aload_n 0, 0, 0, 0, 0, 0, []) := Eq.trans rfl rfl
theorem c_TS_turn_1 : c_TS_turn[1]? = some (1, 3, .getfield 21, 0, 1, 0, 0, 324, []) := Eq.trans rfl rfl
theorem c_TS_turn_2 : c_TS_turn[2]? = some (4, 1, .iload_n 1, 1, 0, 0, 0, 0, []) := Eq.trans rfl rfl
theorem c_TS_turn_3 : c_TS_turn[3]? = some (5, 3, .invokevirtual 108, 35, 2, 2, 0, 469, []) := Eq.trans rfl rfl
theorem c_TS_turn_4 : c_TS_turn[4]? = some (8, 3, .ifCond .ne 5, 7, 0, 0, 0, 0, []) := Eq.trans rfl rfl
theorem c_TS_turn_5 : c_TS_turn[5]? = some (11, 1, .iconst (-1), 0, 0, 0, 0, 0, []) := Eq.trans rfl rfl
theorem c_TS_turn_6 : c_TS_turn[6]? = some (12, 1, .ireturn, 0, 0, 0, 0, 0, []) := Eq.trans rfl rfl
theorem c_TS_turn_7 : c_TS_turn[7]? = some (13, 1, .aload_n 0, 0, 0, 0, 0, 0, []) := Eq.trans rfl rfl
theorem c_TS_turn_8 : c_TS_turn[8]? = some (14, 3, .getfield 30, 0, 2, 0, 0, 325, []) := Eq.trans rfl rfl
theorem c_TS_turn_9 : c_TS_turn[9]? = some (17, 1, .iload_n 1, 1, 0, 0, 0, 0, []) := Eq.trans rfl rfl
theorem c_TS_turn_10 : c_TS_turn[10]? = some (18, 3, .invokevirtual 111, 40, 2, 3, 0, 470, []) := Eq.trans rfl rfl
theorem c_TS_turn_11 : c_TS_turn[11]? = some (21, 1, .istore_n 2, 2, 0, 0, 0, 0, []) := Eq.trans rfl rfl
theorem c_TS_turn_12 : c_TS_turn[12]? = some (22, 1, .iload_n 2, 2, 0, 0, 0, 0, []) := Eq.trans rfl rfl
theorem c_TS_turn_13 : c_TS_turn[13]? = some (23, 1, .iconst 2, 0, 0, 0, 0, 0, []) := Eq.trans rfl rfl
theorem c_TS_turn_14 : c_TS_turn[14]? = some (24, 3, .if_icmp .lt 6, 17, 0, 0, 0, 0, []) := Eq.trans rfl rfl
theorem c_TS_turn_15 : c_TS_turn[15]? = some (27, 2, .bipush (-3), 0, 0, 0, 0, 0, []) := Eq.trans rfl rfl
theorem c_TS_turn_16 : c_TS_turn[16]? = some (29, 1, .ireturn, 0, 0, 0, 0, 0, []) := Eq.trans rfl rfl
theorem c_TS_turn_17 : c_TS_turn[17]? = some (30, 1, .iload_n 2, 2, 0, 0, 0, 0, []) := Eq.trans rfl rfl
theorem c_TS_turn_18 : c_TS_turn[18]? = some (31, 1, .iconst 1, 0, 0, 0, 0, 0, []) := Eq.trans rfl rfl
theorem c_TS_turn_19 : c_TS_turn[19]? = some (32, 3, .if_icmp .ne 5, 22, 0, 0, 0, 0, []) := Eq.trans rfl rfl
theorem c_TS_turn_20 : c_TS_turn[20]? = some (35, 1, .iconst 0, 0, 0, 0, 0, 0, []) := Eq.trans rfl rfl
theorem c_TS_turn_21 : c_TS_turn[21]? = some (36, 1, .ireturn, 0, 0, 0, 0, 0, []) := Eq.trans rfl rfl
theorem c_TS_turn_22 : c_TS_turn[22]? = some (37, 1, .aload_n 0, 0, 0, 0, 0, 0, []) := Eq.trans rfl rfl
theorem c_TS_turn_23 : c_TS_turn[23]? = some (38, 1, .iload_n 1, 1, 0, 0, 0, 0, []) := Eq.trans rfl rfl
theorem c_TS_turn_24 : c_TS_turn[24]? = some (39, 3, .invokevirtual 114, 45, 2, 0, 0, 490, []) := Eq.trans rfl rfl
theorem c_TS_turn_25 : c_TS_turn[25]? = some (42, 1, .iconst 1, 0, 0, 0, 0, 0, []) := Eq.trans rfl rfl
theorem c_TS_turn_26 : c_TS_turn[26]? = some (43, 1, .ireturn, 0, 0, 0, 0, 0, []) := Eq.trans rfl rfl
theorem ty_ok_of {I I' : Nat → Int} {F F' : Nat → Int → Int} {N : Int} {A : Nat → Int → Int} {R : Nat → Int → Int → Int} (h : ty_ok I F N A R) (h0 : I' 0 = I 0) (hk : ∀ k : Nat, k ≠ 13 → k ≠ 14 → F' k = F k) : ty_ok I' F' N A R := by
  unfold ty_ok at *
  rw [h0, hk 1 (by decide) (by decide), hk 2 (by decide) (by decide), hk 3 (by decide) (by decide), hk 4 (by decide) (by decide), hk 5 (by decide) (by decide), hk 6 (by decide) (by decide), hk 7 (by decide) (by decide), hk 15 (by decide) (by decide), hk 16 (by decide) (by decide), hk 17 (by decide) (by decide)]
  exact h
theorem sp_asked_of {F F' : Nat → Int → Int} (hk : ∀ k : Nat, k ≠ 13 → k ≠ 14 → F' k = F k) {b k : Int} : sp_asked F' b k = sp_asked F b k := by
  unfold sp_asked
  rw [hk 1 (by decide) (by decide), hk 9 (by decide) (by decide), hk 10 (by decide) (by decide), hk 17 (by decide) (by decide)]
theorem bo_ok_of {I I' : Nat → Int} {F F' : Nat → Int → Int} {M : Int} {B : Nat → Int → Int} {K : Nat → Int → Int → Int} (h : bo_ok I F M B K) (h0 : I' 0 = I 0) (h1 : I' 1 = I 1) (hk : ∀ k : Nat, k ≠ 13 → k ≠ 14 → F' k = F k) : bo_ok I' F' M B K := by
  obtain ⟨a, b, c, d⟩ := h
  have ei : ∀ x : Int, is_bo I' x ↔ is_bo I x := fun x => by
    unfold is_bo
    rw [h0, h1]
  refine ⟨a.trans h1.symm, b, fun x hx => ?_, fun x hx hn => d x hx (fun z => hn ((ei x).mpr z))⟩
  have g := c x ((ei x).mp hx)
  rw [hk 8 (by decide) (by decide)]
  refine ⟨g.1, fun k hk2 => ?_⟩
  rw [hk 9 (by decide) (by decide), hk 10 (by decide) (by decide), hk 11 (by decide) (by decide), hk 12 (by decide) (by decide), sp_asked_of hk]
  exact g.2 k hk2
/-- from h to h1: the class's object alone has changed, but not its search -/
def tt_to (h : am_H) (o : Nat) (v N : Int) (A : Nat → Int → Int) (R : Nat → Int → Int → Int) (M : Int) (B : Nat → Int → Int) (K : Nat → Int → Int → Int) (n m : Int) (X : Nat → Int → Int) (S : Int → Int → Int) (h1 : am_H) : Prop := ts_at h1 o v N A R M B K n m X S ∧ (∀ a, (a < o ∨ o + 91 < a) → h1.1 a = h.1 a) ∧ h1.2 = h.2
theorem tt_to.tr {h h1 h2 : am_H} {o : Nat} {v N v1 N1 : Int} {A A1 : Nat → Int → Int} {R R1 : Nat → Int → Int → Int} {M M1 : Int} {B B1 : Nat → Int → Int} {K K1 : Nat → Int → Int → Int} {n m n1 m1 : Int} {X X1 : Nat → Int → Int} {S S1 : Int → Int → Int} (H : tt_to h o v N A R M B K n m X S h1) (H1 : tt_to h1 o v1 N1 A1 R1 M1 B1 K1 n1 m1 X1 S1 h2) : tt_to h o v1 N1 A1 R1 M1 B1 K1 n1 m1 X1 S1 h2 := ⟨H1.1, fun a ha => (H1.2.1 a ha).trans (H.2.1 a ha), H1.2.2.trans H.2.2⟩
theorem ts_run {h h1 : am_H} {o : Nat} {v N : Int} {A : Nat → Int → Int} {R : Nat → Int → Int → Int} {M : Int} {B : Nat → Int → Int} {K : Nat → Int → Int → Int} {n m n1 m1 : Int} {X X1 : Nat → Int → Int} {S S1 : Int → Int → Int} (T : ts_at h o v N A R M B K n m X S) (w : ru_to h (o + 76) (o + 1) (o + 23) n1 m1 X1 S1 h1) : tt_to h o v N A R M B K n1 m1 X1 S1 h1 :=
  ⟨⟨T.1, (w.2.1 o (Or.inl (by omega))).trans T.2.1, T.2.2.1.fr w, w.1⟩, fun a ha => w.2.1 a (by omega), w.2.2⟩
theorem ts_num {h h1 : am_H} {o : Nat} {v v1 N : Int} {A : Nat → Int → Int} {R : Nat → Int → Int → Int} {M : Int} {B : Nat → Int → Int} {K : Nat → Int → Int → Int} {n m : Int} {X : Nat → Int → Int} {S : Int → Int → Int} (T : tt_to h o v N A R M B K n m X S h1) : tt_to h o v1 N A R M B K n m X S (am_put h1 o (.inr (0, ts_fs o v1))) := by
  obtain ⟨⟨t0, tO, E, H⟩, hf, h2⟩ := T
  have fr : ∀ a, a ≠ o → (am_put h1 o (.inr (0, ts_fs o v1))).1 a = h1.1 a := fun a ha => am_up_miss ha
  obtain ⟨r0, rO, rG, rA, rB, rS⟩ := H
  refine ⟨⟨t0, am_up_hit, ⟨E.1.fr (fun a b _ => fr a (by omega)), E.2.1.fr (fun a b _ => fr a (by omega)), E.2.2⟩, r0, (fr _ (by omega)).trans rO, (fr _ (by omega)).trans rG, fun k a b c => (fr _ (by omega)).trans (rA k a b c), (fr _ (by omega)).trans rB, fun z a b => (fr _ (by omega)).trans (rS z a b)⟩, fun a ha => (fr a (by omega)).trans (hf a ha), h2⟩
theorem lg_rel : ∀ (L : List (Int × Int × Int)) (I : Nat → Int) (F : Nat → Int → Int) (m : Int) (f : Int → Int), I 3 = 1 → m = I 4 → 0 ≤ m → m + L.length ≤ 60 → (∀ j : Int, 0 ≤ j ∧ j < 3 * m → f j = F 14 j) → (cl_L L m f).1 = sp_LI L I 4 ∧ ∀ j : Int, 0 ≤ j ∧ j < 3 * sp_LI L I 4 → (cl_L L m f).2 j = sp_LF L I F 14 j := by
  intro L
  induction L with
  | nil =>
    intro I F m f h3 hm h0 hl hf
    refine ⟨hm, fun j hj => ?_⟩
    have hj2 : j < 3 * I 4 := hj.2
    exact hf j ⟨hj.1, by omega⟩
  | cons e L ih =>
    intro I F m f h3 hm h0 hl hf
    have hl2 : (m : Int) + ((L.length : Int) + 1) ≤ 60 := by
      simp only [List.length_cons, Int.natCast_add, Int.natCast_one] at hl
      exact hl
    have ec : cl_a m f e.1 e.2.1 e.2.2 = (m + 1, vI (vI (vI f (m * 3) e.1) (m * 3 + 1) e.2.1) (m * 3 + 2) e.2.2) := if_neg (by omega)
    have ei : sp_lI I = va_up I 4 (I 4 + 1) := if_neg (by omega)
    have ef : sp_lF I F e.1 e.2.1 e.2.2 = va_up F 14 (vI (vI (vI (F 14) (3 * I 4) e.1) (3 * I 4 + 1) e.2.1) (3 * I 4 + 2) e.2.2) := if_neg (by omega)
    have g := ih (sp_lI I) (sp_lF I F e.1 e.2.1 e.2.2) (m + 1) (vI (vI (vI f (m * 3) e.1) (m * 3 + 1) e.2.1) (m * 3 + 2) e.2.2) (by rw [sp_lI_k (by decide)]; exact h3) (by rw [ei, va_up_hit, hm]) (by omega) (by omega) (fun j hj => by
      rw [ef, va_up_hit]
      unfold vI
      rw [← hm, Int.mul_comm 3 m]
      by_cases c2 : j = m * 3 + 2
      · rw [if_pos c2, if_pos c2]
      · rw [if_neg c2, if_neg c2]
        by_cases c1 : j = m * 3 + 1
        · rw [if_pos c1, if_pos c1]
        · rw [if_neg c1, if_neg c1]
          by_cases c0 : j = m * 3
          · rw [if_pos c0, if_pos c0]
          · rw [if_neg c0, if_neg c0]
            exact hf j ⟨hj.1, by omega⟩)
    have e2 : cl_L (e :: L) m f = cl_L L (m + 1) (vI (vI (vI f (m * 3) e.1) (m * 3 + 1) e.2.1) (m * 3 + 2) e.2.2) := by
      show cl_L L (cl_a m f e.1 e.2.1 e.2.2).1 (cl_a m f e.1 e.2.1 e.2.2).2 = _
      rw [ec]
    rw [e2]
    exact g
set_option maxHeartbeats 8000000 in
theorem ct_startAnew (d : Nat) (hd : 3 ≤ d) (h : am_H) (o : Nat) (v N : Int) (A : Nat → Int → Int) (R : Nat → Int → Int → Int) (M : Int) (B : Nat → Int → Int) (K : Nat → Int → Int → Int) (n m : Int) (X : Nat → Int → Int) (S : Int → Int → Int) (T : ts_at h o v N A R M B K n m X S) (r : rn) : am_Ct am_df am_MT d 19 [.ref o] h (fun r0 h' => r0 = none ∧ ∃ X', tt_to h o (-1) N A R M B K 0 0 X' S h' ∧ ru_ok (rz r) X' S) := by
  have T' := T
  obtain ⟨t0, tO, E, H⟩ := T'
  have hO := H.2.1
  obtain ⟨d, rfl⟩ : ∃ e, d = e + 1 := ⟨d - 1, by omega⟩
  refine am_ct_of2 mt_TS_startAnew (Nat.le_of_ble_eq_true rfl) ?_
  simp only [ar_nil, ar_int, ar_ref, ar_long, Nat.reduceAdd]
  refine am_go_of 10 [2] _ c_TS_startAnew_0 ?_
  simp (maxSteps := 2000000) (disch := omega) only [c_TS_startAnew_0, c_TS_startAnew_1, c_TS_startAnew_2, c_TS_startAnew_3, c_TS_startAnew_4, c_TS_startAnew_5, c_TS_startAnew_6, sx_aload_n, sx_getfield, sx_iconst, sx_putfield, sx_return, am_W_s, am_W_0, am_mm_some, List.mem_cons, or_false, false_or, or_self, or_true, true_or, reduceIte, if_false, if_true, am_o_some, am_o_none, am_o_bad, am_o_good, am_ldi_hit, am_ldi_miss, am_lda_hit, am_lda_miss, am_ldl_hit, am_ldl_miss, am_inc_eq, am_inc_hit, am_inc_miss, am_ob_hit, am_fd_0, am_fd_s, am_ai_hit, am_ab_3, am_al_hit, am_aq_4, am_al0_hit, am_put_1, am_put_2, am_put_put, am_up_hit, am_up_miss, am_s1_eq, am_s2_eq, am_fl_nil, am_fl_hit, am_fl_int, am_fl_ref, am_fl_long, am_fl_longx, am_fl2_nil, am_fl2_hit, am_fl2_hit1, am_fl2_int, am_fl2_ref, am_fl2_long, List.not_mem_nil, not_false_eq_true, ne_eq, Nat.reduceAdd, Nat.reduceEqDiff, Nat.zero_add, Nat.add_left_cancel_iff, List.set_cons_zero, List.set_cons_succ, List.length_cons, List.length_nil, Nat.reduceLT, am_ft_i, am_ft_r, am_ft_z, and_true, true_and, Option.toList_some, Option.toList_none, List.cons_append, List.nil_append, List.drop_succ_cons, List.drop_zero, iI_c, iI_b, iI_s, iI_n, iI_add, iI_sub, iI_mul, iI_neg, iI_nle, iI_ix, iI_eq0, iI_eq1, iI_lt0, iI_0lt, iI_le0, iI_0le, iI_eq, iI_lt, iI_le, iI_upd, iI_updZ, Int.reduceEq, Int.reduceLT, Int.reduceLE, Int.reduceNeg, Int.reduceNe, tO, ts_fs_len, ts_f0, ts_f1, ts_f2, ts_f3, ts_f4, ts_s4, ty_fs_len, ty_f0, ty_f1, ty_f2, ty_f3, ty_f4, ty_f5, ty_f6, ty_f7, ty_f8, ty_f9, ty_s0, ty_t1, ty_l1, ty_t2, ty_l2, ty_t3, ty_l3, ty_t11, ty_l11, ty_t12, ty_l12, ty_t13, ty_l13, ty_t14, ty_l14, bo_fs_len, bo_f0, bo_f1, bo_f2, bo_f3, bo_f4, bo_f5, bo_f6, bo_f7, bo_f8, bo_s0, ru_fs_len, ru_f0, ru_f1, ru_f2, ru_f3, ru_f4, ru_f5, ru_f6, ru_f7, ru_f8, ru_f9, ru_f10, ru_f11, ru_f12, ru_f13, ru_s0, ru_t2, ru_l2, ru_t3, ru_l3, ru_t4, ru_l4, ru_t5, ru_l5, ru_t10, ru_l10, ru_t11, ru_l11, ru_t12, ru_l12, ru_t13, ru_l13, ru_t14, ru_l14, ru_t15, ru_l15, lo_fs_len, lo_f0, lo_f1, lo_s0, rw_hit]
  refine am_go_call c_TS_startAnew_2 (by decide) (by decide) (by first | (simp [am_can, am_kd, Value.category, hO]; done) | (simp [am_can, am_kd, am_b, am_c, Value.category, hO]; done) | (simp (disch := omega) [am_can, am_kd, am_b, am_c, Value.category, am_put_1, am_up_hit, am_up_miss, hO]; done)) ?_
  refine (ct_reset d (by omega) h (o + 76) (o + 1) (o + 23) n m X S H r).mono (fun r9 h1 hr9 => ?_)
  obtain ⟨rfl, X', w, ho⟩ := hr9
  have w1 := ts_run T w
  have tO1 := w1.1.2.1
  refine am_go_of 10 [2] _ c_TS_startAnew_3 ?_
  simp (maxSteps := 2000000) (disch := omega) only [c_TS_startAnew_0, c_TS_startAnew_1, c_TS_startAnew_2, c_TS_startAnew_3, c_TS_startAnew_4, c_TS_startAnew_5, c_TS_startAnew_6, sx_aload_n, sx_getfield, sx_iconst, sx_putfield, sx_return, am_W_s, am_W_0, am_mm_some, List.mem_cons, or_false, false_or, or_self, or_true, true_or, reduceIte, if_false, if_true, am_o_some, am_o_none, am_o_bad, am_o_good, am_ldi_hit, am_ldi_miss, am_lda_hit, am_lda_miss, am_ldl_hit, am_ldl_miss, am_inc_eq, am_inc_hit, am_inc_miss, am_ob_hit, am_fd_0, am_fd_s, am_ai_hit, am_ab_3, am_al_hit, am_aq_4, am_al0_hit, am_put_1, am_put_2, am_put_put, am_up_hit, am_up_miss, am_s1_eq, am_s2_eq, am_fl_nil, am_fl_hit, am_fl_int, am_fl_ref, am_fl_long, am_fl_longx, am_fl2_nil, am_fl2_hit, am_fl2_hit1, am_fl2_int, am_fl2_ref, am_fl2_long, List.not_mem_nil, not_false_eq_true, ne_eq, Nat.reduceAdd, Nat.reduceEqDiff, Nat.zero_add, Nat.add_left_cancel_iff, List.set_cons_zero, List.set_cons_succ, List.length_cons, List.length_nil, Nat.reduceLT, am_ft_i, am_ft_r, am_ft_z, and_true, true_and, Option.toList_some, Option.toList_none, List.cons_append, List.nil_append, List.drop_succ_cons, List.drop_zero, iI_c, iI_b, iI_s, iI_n, iI_add, iI_sub, iI_mul, iI_neg, iI_nle, iI_ix, iI_eq0, iI_eq1, iI_lt0, iI_0lt, iI_le0, iI_0le, iI_eq, iI_lt, iI_le, iI_upd, iI_updZ, Int.reduceEq, Int.reduceLT, Int.reduceLE, Int.reduceNeg, Int.reduceNe, tO1, ts_fs_len, ts_f0, ts_f1, ts_f2, ts_f3, ts_f4, ts_s4, ty_fs_len, ty_f0, ty_f1, ty_f2, ty_f3, ty_f4, ty_f5, ty_f6, ty_f7, ty_f8, ty_f9, ty_s0, ty_t1, ty_l1, ty_t2, ty_l2, ty_t3, ty_l3, ty_t11, ty_l11, ty_t12, ty_l12, ty_t13, ty_l13, ty_t14, ty_l14, bo_fs_len, bo_f0, bo_f1, bo_f2, bo_f3, bo_f4, bo_f5, bo_f6, bo_f7, bo_f8, bo_s0, ru_fs_len, ru_f0, ru_f1, ru_f2, ru_f3, ru_f4, ru_f5, ru_f6, ru_f7, ru_f8, ru_f9, ru_f10, ru_f11, ru_f12, ru_f13, ru_s0, ru_t2, ru_l2, ru_t3, ru_l3, ru_t4, ru_l4, ru_t5, ru_l5, ru_t10, ru_l10, ru_t11, ru_l11, ru_t12, ru_l12, ru_t13, ru_l13, ru_t14, ru_l14, ru_t15, ru_l15, lo_fs_len, lo_f0, lo_f1, lo_s0, rw_hit]
  repeat (refine And.intro (by omega) ?_)
  exact ⟨X', ts_num w1, ho⟩
/-- a call of the class that begins the run anew: what is behind it -/
theorem ts_first {I : Nat → Int} {F : Nat → Int → Int} {r : rn} {N : Int} {A : Nat → Int → Int} {R : Nat → Int → Int → Int} {M : Int} {B : Nat → Int → Int} {K : Nat → Int → Int → Int} {X : Nat → Int → Int} {S : Int → Int → Int} (hT : ty_ok I F N A R) (hB : bo_ok I F M B K) (ho : ru_ok (rz r) X S) : ts_ok (fs_I I) (va_up F 13 (vec (rz r))) (rz r) N A R M B K 0 0 X S :=
  ⟨ty_ok_of hT rfl (fun k a _ => va_up_miss a), bo_ok_of hB rfl rfl (fun k a _ => va_up_miss a), ho, rfl, rfl, fun j hj => by
    have : j < 3 * 0 := hj.2
    omega⟩
set_option maxHeartbeats 8000000 in
theorem ct_Tbegin (d : Nat) (hd : 4 ≤ d) (h : am_H) (o : Nat) (v N : Int) (A : Nat → Int → Int) (R : Nat → Int → Int → Int) (M : Int) (B : Nat → Int → Int) (K : Nat → Int → Int → Int) (n m : Int) (X : Nat → Int → Int) (S : Int → Int → Int) (T : ts_at h o v N A R M B K n m X S) (I : Nat → Int) (F : Nat → Int → Int) (r : rn) (hk : ts_ok I F r N A R M B K n m X S) : am_Ct am_df am_MT d 38 [.ref o] h (fun r0 h' => r0 = some (.int (iI (I 2))) ∧ ∃ X', tt_to h o (-1) N A R M B K 0 0 X' S h' ∧ ts_ok (fs_I I) (va_up F 13 (vec (rz r))) (rz r) N A R M B K 0 0 X' S) := by
  have T' := T
  obtain ⟨t0, tO, E, H⟩ := T'
  have hO := H.2.1
  obtain ⟨hT, hBo, ho, en, em, el⟩ := hk
  rw [← en]
  obtain ⟨d, rfl⟩ : ∃ e, d = e + 1 := ⟨d - 1, by omega⟩
  refine am_ct_of2 mt_TS_begin (Nat.le_of_ble_eq_true rfl) ?_
  simp only [ar_nil, ar_int, ar_ref, ar_long, Nat.reduceAdd]
  refine am_go_of 10 [5] _ c_TS_begin_0 ?_
  simp (maxSteps := 2000000) (disch := omega) only [c_TS_begin_0, c_TS_begin_1, c_TS_begin_2, c_TS_begin_3, c_TS_begin_4, c_TS_begin_5, c_TS_begin_6, c_TS_begin_7, sx_aload_n, sx_getfield, sx_iload_n, sx_ireturn, sx_istore_n, sx_zreturn, am_W_s, am_W_0, am_mm_some, List.mem_cons, or_false, false_or, or_self, or_true, true_or, reduceIte, if_false, if_true, am_o_some, am_o_none, am_o_bad, am_o_good, am_ldi_hit, am_ldi_miss, am_lda_hit, am_lda_miss, am_ldl_hit, am_ldl_miss, am_inc_eq, am_inc_hit, am_inc_miss, am_ob_hit, am_fd_0, am_fd_s, am_ai_hit, am_ab_3, am_al_hit, am_aq_4, am_al0_hit, am_put_1, am_put_2, am_put_put, am_up_hit, am_up_miss, am_s1_eq, am_s2_eq, am_fl_nil, am_fl_hit, am_fl_int, am_fl_ref, am_fl_long, am_fl_longx, am_fl2_nil, am_fl2_hit, am_fl2_hit1, am_fl2_int, am_fl2_ref, am_fl2_long, List.not_mem_nil, not_false_eq_true, ne_eq, Nat.reduceAdd, Nat.reduceEqDiff, Nat.zero_add, Nat.add_left_cancel_iff, List.set_cons_zero, List.set_cons_succ, List.length_cons, List.length_nil, Nat.reduceLT, am_ft_i, am_ft_r, am_ft_z, and_true, true_and, Option.toList_some, Option.toList_none, List.cons_append, List.nil_append, List.drop_succ_cons, List.drop_zero, iI_c, iI_b, iI_s, iI_n, iI_add, iI_sub, iI_mul, iI_neg, iI_nle, iI_ix, iI_eq0, iI_eq1, iI_lt0, iI_0lt, iI_le0, iI_0le, iI_eq, iI_lt, iI_le, iI_upd, iI_updZ, Int.reduceEq, Int.reduceLT, Int.reduceLE, Int.reduceNeg, Int.reduceNe, tO, hO, ts_fs_len, ts_f0, ts_f1, ts_f2, ts_f3, ts_f4, ts_s4, ty_fs_len, ty_f0, ty_f1, ty_f2, ty_f3, ty_f4, ty_f5, ty_f6, ty_f7, ty_f8, ty_f9, ty_s0, ty_t1, ty_l1, ty_t2, ty_l2, ty_t3, ty_l3, ty_t11, ty_l11, ty_t12, ty_l12, ty_t13, ty_l13, ty_t14, ty_l14, bo_fs_len, bo_f0, bo_f1, bo_f2, bo_f3, bo_f4, bo_f5, bo_f6, bo_f7, bo_f8, bo_s0, ru_fs_len, ru_f0, ru_f1, ru_f2, ru_f3, ru_f4, ru_f5, ru_f6, ru_f7, ru_f8, ru_f9, ru_f10, ru_f11, ru_f12, ru_f13, ru_s0, ru_t2, ru_l2, ru_t3, ru_l3, ru_t4, ru_l4, ru_t5, ru_l5, ru_t10, ru_l10, ru_t11, ru_l11, ru_t12, ru_l12, ru_t13, ru_l13, ru_t14, ru_l14, ru_t15, ru_l15, lo_fs_len, lo_f0, lo_f1, lo_s0, rw_hit]
  refine am_go_call c_TS_begin_5 (by decide) (by decide) (by first | (simp [am_can, am_kd, Value.category, tO]; done) | (simp [am_can, am_kd, am_b, am_c, Value.category, tO]; done) | (simp (disch := omega) [am_can, am_kd, am_b, am_c, Value.category, am_put_1, am_up_hit, am_up_miss, tO]; done)) ?_
  refine (ct_startAnew d (by omega) h o v N A R M B K n m X S T r).mono (fun r9 h1 hr9 => ?_)
  obtain ⟨rfl, X', w, ho2⟩ := hr9
  refine am_go_of 10 [5] _ c_TS_begin_6 ?_
  simp (maxSteps := 2000000) (disch := omega) only [c_TS_begin_0, c_TS_begin_1, c_TS_begin_2, c_TS_begin_3, c_TS_begin_4, c_TS_begin_5, c_TS_begin_6, c_TS_begin_7, sx_aload_n, sx_getfield, sx_iload_n, sx_ireturn, sx_istore_n, sx_zreturn, am_W_s, am_W_0, am_mm_some, List.mem_cons, or_false, false_or, or_self, or_true, true_or, reduceIte, if_false, if_true, am_o_some, am_o_none, am_o_bad, am_o_good, am_ldi_hit, am_ldi_miss, am_lda_hit, am_lda_miss, am_ldl_hit, am_ldl_miss, am_inc_eq, am_inc_hit, am_inc_miss, am_ob_hit, am_fd_0, am_fd_s, am_ai_hit, am_ab_3, am_al_hit, am_aq_4, am_al0_hit, am_put_1, am_put_2, am_put_put, am_up_hit, am_up_miss, am_s1_eq, am_s2_eq, am_fl_nil, am_fl_hit, am_fl_int, am_fl_ref, am_fl_long, am_fl_longx, am_fl2_nil, am_fl2_hit, am_fl2_hit1, am_fl2_int, am_fl2_ref, am_fl2_long, List.not_mem_nil, not_false_eq_true, ne_eq, Nat.reduceAdd, Nat.reduceEqDiff, Nat.zero_add, Nat.add_left_cancel_iff, List.set_cons_zero, List.set_cons_succ, List.length_cons, List.length_nil, Nat.reduceLT, am_ft_i, am_ft_r, am_ft_z, and_true, true_and, Option.toList_some, Option.toList_none, List.cons_append, List.nil_append, List.drop_succ_cons, List.drop_zero, iI_c, iI_b, iI_s, iI_n, iI_add, iI_sub, iI_mul, iI_neg, iI_nle, iI_ix, iI_eq0, iI_eq1, iI_lt0, iI_0lt, iI_le0, iI_0le, iI_eq, iI_lt, iI_le, iI_upd, iI_updZ, Int.reduceEq, Int.reduceLT, Int.reduceLE, Int.reduceNeg, Int.reduceNe, ts_fs_len, ts_f0, ts_f1, ts_f2, ts_f3, ts_f4, ts_s4, ty_fs_len, ty_f0, ty_f1, ty_f2, ty_f3, ty_f4, ty_f5, ty_f6, ty_f7, ty_f8, ty_f9, ty_s0, ty_t1, ty_l1, ty_t2, ty_l2, ty_t3, ty_l3, ty_t11, ty_l11, ty_t12, ty_l12, ty_t13, ty_l13, ty_t14, ty_l14, bo_fs_len, bo_f0, bo_f1, bo_f2, bo_f3, bo_f4, bo_f5, bo_f6, bo_f7, bo_f8, bo_s0, ru_fs_len, ru_f0, ru_f1, ru_f2, ru_f3, ru_f4, ru_f5, ru_f6, ru_f7, ru_f8, ru_f9, ru_f10, ru_f11, ru_f12, ru_f13, ru_s0, ru_t2, ru_l2, ru_t3, ru_l3, ru_t4, ru_l4, ru_t5, ru_l5, ru_t10, ru_l10, ru_t11, ru_l11, ru_t12, ru_l12, ru_t13, ru_l13, ru_t14, ru_l14, ru_t15, ru_l15, lo_fs_len, lo_f0, lo_f1, lo_s0, rw_hit]
  first | exact ⟨X', w, ts_first hT hBo ho2⟩ | exact ⟨rfl, X', w, ts_first hT hBo ho2⟩
set_option maxHeartbeats 8000000 in
theorem ct_makeStep (d : Nat) (hd : 7 ≤ d) (h : am_H) (o : Nat) (v N : Int) (A : Nat → Int → Int) (R : Nat → Int → Int → Int) (M : Int) (B : Nat → Int → Int) (K : Nat → Int → Int → Int) (n m : Int) (X : Nat → Int → Int) (S : Int → Int → Int) (T : ts_at h o v N A R M B K n m X S) (I : Nat → Int) (F : Nat → Int → Int) (r : rn) (hmd : md_ok I F r) (h3 : I 3 = 1) (hk : ts_ok I F r N A R M B K n m X S) (th : Int) (hth : 0 ≤ th ∧ th < I 1) (hst : hv1 F r th = 1) : am_Ct am_df am_MT d 45 [.ref o, .int (iI th)] h (fun r0 h' => r0 = none ∧ ∃ n' m' X' S', tt_to h o (-1) N A R M B K n' m' X' S' h' ∧ ts_ok (mk_J I F r th) (mk_F I F r th) (sq_steps F r th).1 N A R M B K n' m' X' S') := by
  have T' := T
  obtain ⟨t0, tO, E, H⟩ := T'
  have hO := H.2.1
  obtain ⟨hT, hBo, ho, en, em, el⟩ := hk
  obtain ⟨h13, hr, hw, hv, hl⟩ := hmd
  have hI := hr.1
  have hen := hv1_en (F := F) (r := r) ⟨hth.1, by omega⟩ hst
  have st := st_steps hr hw hv hth hen.1
  have mu0 := mu_0 (a := 7) hv.1 (by decide)
  have mu1 := mu_0 (a := 7) st.1.1 (by decide)
  have hlg : 0 ≤ I 4 ∧ I 4 + mu 7 r ≤ 60 := by
    unfold lg_ok at hl
    omega
  have hm : 0 ≤ m ∧ m < 1000000 := by omega
  have rel := lg_rel (sq_steps F r th).2 I (va_up F 13 (vec (sq_steps F r th).1)) m (X 2) h3 em hm.1 (by have := st.2.1; omega) (fun j hj => by rw [va_up_miss (by decide)]; exact el j (by omega))
  obtain ⟨d, rfl⟩ : ∃ e, d = e + 1 := ⟨d - 1, by omega⟩
  refine am_ct_of2 mt_TS_makeStep (Nat.le_of_ble_eq_true rfl) ?_
  simp only [ar_nil, ar_int, ar_ref, ar_long, Nat.reduceAdd]
  refine am_go_of 10 [3] _ c_TS_makeStep_0 ?_
  simp (maxSteps := 2000000) (disch := omega) only [c_TS_makeStep_0, c_TS_makeStep_1, c_TS_makeStep_2, c_TS_makeStep_3, c_TS_makeStep_4, c_TS_makeStep_5, c_TS_makeStep_6, c_TS_makeStep_7, sx_aload_n, sx_getfield, sx_iconst, sx_iload_n, sx_putfield, sx_return, am_W_s, am_W_0, am_mm_some, List.mem_cons, or_false, false_or, or_self, or_true, true_or, reduceIte, if_false, if_true, am_o_some, am_o_none, am_o_bad, am_o_good, am_ldi_hit, am_ldi_miss, am_lda_hit, am_lda_miss, am_ldl_hit, am_ldl_miss, am_inc_eq, am_inc_hit, am_inc_miss, am_ob_hit, am_fd_0, am_fd_s, am_ai_hit, am_ab_3, am_al_hit, am_aq_4, am_al0_hit, am_put_1, am_put_2, am_put_put, am_up_hit, am_up_miss, am_s1_eq, am_s2_eq, am_fl_nil, am_fl_hit, am_fl_int, am_fl_ref, am_fl_long, am_fl_longx, am_fl2_nil, am_fl2_hit, am_fl2_hit1, am_fl2_int, am_fl2_ref, am_fl2_long, List.not_mem_nil, not_false_eq_true, ne_eq, Nat.reduceAdd, Nat.reduceEqDiff, Nat.zero_add, Nat.add_left_cancel_iff, List.set_cons_zero, List.set_cons_succ, List.length_cons, List.length_nil, Nat.reduceLT, am_ft_i, am_ft_r, am_ft_z, and_true, true_and, Option.toList_some, Option.toList_none, List.cons_append, List.nil_append, List.drop_succ_cons, List.drop_zero, iI_c, iI_b, iI_s, iI_n, iI_add, iI_sub, iI_mul, iI_neg, iI_nle, iI_ix, iI_eq0, iI_eq1, iI_lt0, iI_0lt, iI_le0, iI_0le, iI_eq, iI_lt, iI_le, iI_upd, iI_updZ, Int.reduceEq, Int.reduceLT, Int.reduceLE, Int.reduceNeg, Int.reduceNe, tO, ts_fs_len, ts_f0, ts_f1, ts_f2, ts_f3, ts_f4, ts_s4, ty_fs_len, ty_f0, ty_f1, ty_f2, ty_f3, ty_f4, ty_f5, ty_f6, ty_f7, ty_f8, ty_f9, ty_s0, ty_t1, ty_l1, ty_t2, ty_l2, ty_t3, ty_l3, ty_t11, ty_l11, ty_t12, ty_l12, ty_t13, ty_l13, ty_t14, ty_l14, bo_fs_len, bo_f0, bo_f1, bo_f2, bo_f3, bo_f4, bo_f5, bo_f6, bo_f7, bo_f8, bo_s0, ru_fs_len, ru_f0, ru_f1, ru_f2, ru_f3, ru_f4, ru_f5, ru_f6, ru_f7, ru_f8, ru_f9, ru_f10, ru_f11, ru_f12, ru_f13, ru_s0, ru_t2, ru_l2, ru_t3, ru_l3, ru_t4, ru_l4, ru_t5, ru_l5, ru_t10, ru_l10, ru_t11, ru_l11, ru_t12, ru_l12, ru_t13, ru_l13, ru_t14, ru_l14, ru_t15, ru_l15, lo_fs_len, lo_f0, lo_f1, lo_s0, rw_hit]
  refine am_go_call c_TS_makeStep_3 (by decide) (by decide) (by first | (simp [am_can, am_kd, Value.category, hO]; done) | (simp [am_can, am_kd, am_b, am_c, Value.category, hO]; done) | (simp (disch := omega) [am_can, am_kd, am_b, am_c, Value.category, am_put_1, am_up_hit, am_up_miss, hO]; done)) ?_
  refine (ct_step d (by omega) h (o + 76) (o + 1) (o + 23) n m X S H N A R M B K E hm I F hr hw hT hBo r hv ho th hth hen.1 hen.2).mono (fun r9 h1 hr9 => ?_)
  obtain ⟨rfl, X1, S1, w, ho1, hx1⟩ := hr9
  have w1 := ts_run T w
  have tO1 := w1.1.2.1
  refine am_go_of 10 [3] _ c_TS_makeStep_4 ?_
  simp (maxSteps := 2000000) (disch := omega) only [c_TS_makeStep_0, c_TS_makeStep_1, c_TS_makeStep_2, c_TS_makeStep_3, c_TS_makeStep_4, c_TS_makeStep_5, c_TS_makeStep_6, c_TS_makeStep_7, sx_aload_n, sx_getfield, sx_iconst, sx_iload_n, sx_putfield, sx_return, am_W_s, am_W_0, am_mm_some, List.mem_cons, or_false, false_or, or_self, or_true, true_or, reduceIte, if_false, if_true, am_o_some, am_o_none, am_o_bad, am_o_good, am_ldi_hit, am_ldi_miss, am_lda_hit, am_lda_miss, am_ldl_hit, am_ldl_miss, am_inc_eq, am_inc_hit, am_inc_miss, am_ob_hit, am_fd_0, am_fd_s, am_ai_hit, am_ab_3, am_al_hit, am_aq_4, am_al0_hit, am_put_1, am_put_2, am_put_put, am_up_hit, am_up_miss, am_s1_eq, am_s2_eq, am_fl_nil, am_fl_hit, am_fl_int, am_fl_ref, am_fl_long, am_fl_longx, am_fl2_nil, am_fl2_hit, am_fl2_hit1, am_fl2_int, am_fl2_ref, am_fl2_long, List.not_mem_nil, not_false_eq_true, ne_eq, Nat.reduceAdd, Nat.reduceEqDiff, Nat.zero_add, Nat.add_left_cancel_iff, List.set_cons_zero, List.set_cons_succ, List.length_cons, List.length_nil, Nat.reduceLT, am_ft_i, am_ft_r, am_ft_z, and_true, true_and, Option.toList_some, Option.toList_none, List.cons_append, List.nil_append, List.drop_succ_cons, List.drop_zero, iI_c, iI_b, iI_s, iI_n, iI_add, iI_sub, iI_mul, iI_neg, iI_nle, iI_ix, iI_eq0, iI_eq1, iI_lt0, iI_0lt, iI_le0, iI_0le, iI_eq, iI_lt, iI_le, iI_upd, iI_updZ, Int.reduceEq, Int.reduceLT, Int.reduceLE, Int.reduceNeg, Int.reduceNe, tO1, ts_fs_len, ts_f0, ts_f1, ts_f2, ts_f3, ts_f4, ts_s4, ty_fs_len, ty_f0, ty_f1, ty_f2, ty_f3, ty_f4, ty_f5, ty_f6, ty_f7, ty_f8, ty_f9, ty_s0, ty_t1, ty_l1, ty_t2, ty_l2, ty_t3, ty_l3, ty_t11, ty_l11, ty_t12, ty_l12, ty_t13, ty_l13, ty_t14, ty_l14, bo_fs_len, bo_f0, bo_f1, bo_f2, bo_f3, bo_f4, bo_f5, bo_f6, bo_f7, bo_f8, bo_s0, ru_fs_len, ru_f0, ru_f1, ru_f2, ru_f3, ru_f4, ru_f5, ru_f6, ru_f7, ru_f8, ru_f9, ru_f10, ru_f11, ru_f12, ru_f13, ru_s0, ru_t2, ru_l2, ru_t3, ru_l3, ru_t4, ru_l4, ru_t5, ru_l5, ru_t10, ru_l10, ru_t11, ru_l11, ru_t12, ru_l12, ru_t13, ru_l13, ru_t14, ru_l14, ru_t15, ru_l15, lo_fs_len, lo_f0, lo_f1, lo_s0, rw_hit]
  repeat (refine And.intro (by omega) ?_)
  refine ⟨_, _, X1, S1, ts_num w1, ty_ok_of hT (mk_J_k (by decide) (by decide) (by decide)) (fun k a b => mk_F_k a b), bo_ok_of hBo (mk_J_k (by decide) (by decide) (by decide)) (mk_J_k (by decide) (by decide) (by decide)) (fun k a b => mk_F_k a b), ho1, ?_, rel.1, fun j hj => ?_⟩
  · show n + 1 = sp_LI (sq_steps F r th).2 I 2 + 1
    rw [sp_LI_k (by decide), en]
  · rw [hx1]
    exact rel.2 j hj
set_option maxHeartbeats 8000000 in
theorem ct_Tturn (d : Nat) (hd : 8 ≤ d) (h : am_H) (o : Nat) (v N : Int) (A : Nat → Int → Int) (R : Nat → Int → Int → Int) (M : Int) (B : Nat → Int → Int) (K : Nat → Int → Int → Int) (n m : Int) (X : Nat → Int → Int) (S : Int → Int → Int) (T : ts_at h o v N A R M B K n m X S) (I : Nat → Int) (F : Nat → Int → Int) (r : rn) (hmd : md_ok I F r) (h3 : I 3 = 1) (hk : ts_ok I F r N A R M B K n m X S) (z : Int) (hz : -2147483648 ≤ z ∧ z < 2147483648) : am_Ct am_df am_MT d 39 [.ref o, .int (iI z)] h (fun r0 h' => r0 = some (.int (iI (an_turn I F z))) ∧ (an_turn I F z ≠ 1 → h' = h) ∧ (an_turn I F z = 1 → ∃ n' m' X' S', tt_to h o (-1) N A R M B K n' m' X' S' h' ∧ ts_ok (mk_J I F r z) (mk_F I F r z) (sq_steps F r z).1 N A R M B K n' m' X' S')) := by
  have T' := T
  obtain ⟨t0, tO, E, H⟩ := T'
  have hO := H.2.1
  have bO := E.2.1.2.1
  have hk' := hk
  obtain ⟨hT, hBo, ho, en, em, el⟩ := hk'
  have hmd' := hmd
  obtain ⟨h13, hr, hw, hv, hl⟩ := hmd'
  have hI := hr.1
  obtain ⟨d, rfl⟩ : ∃ e, d = e + 1 := ⟨d - 1, by omega⟩
  refine am_ct_of2 mt_TS_turn (Nat.le_of_ble_eq_true rfl) ?_
  simp only [ar_nil, ar_int, ar_ref, ar_long, Nat.reduceAdd]
  refine am_go_of 10 [3, 10, 24] _ c_TS_turn_0 ?_
  simp (maxSteps := 2000000) (disch := omega) only [c_TS_turn_0, c_TS_turn_1, c_TS_turn_2, c_TS_turn_3, c_TS_turn_4, c_TS_turn_5, c_TS_turn_6, c_TS_turn_7, c_TS_turn_8, c_TS_turn_9, c_TS_turn_10, c_TS_turn_11, c_TS_turn_12, c_TS_turn_13, c_TS_turn_14, c_TS_turn_15, c_TS_turn_16, c_TS_turn_17, c_TS_turn_18, c_TS_turn_19, c_TS_turn_20, c_TS_turn_21, c_TS_turn_22, c_TS_turn_23, c_TS_turn_24, c_TS_turn_25, c_TS_turn_26, sx_aload_n, sx_bipush, sx_getfield, sx_iconst, sx_ifCond_ne, sx_if_icmp_lt, sx_if_icmp_ne, sx_iload_n, sx_ireturn, sx_istore_n, sx_zreturn, am_W_s, am_W_0, am_mm_some, List.mem_cons, or_false, false_or, or_self, or_true, true_or, reduceIte, if_false, if_true, am_o_some, am_o_none, am_o_bad, am_o_good, am_ldi_hit, am_ldi_miss, am_lda_hit, am_lda_miss, am_ldl_hit, am_ldl_miss, am_inc_eq, am_inc_hit, am_inc_miss, am_ob_hit, am_fd_0, am_fd_s, am_ai_hit, am_ab_3, am_al_hit, am_aq_4, am_al0_hit, am_put_1, am_put_2, am_put_put, am_up_hit, am_up_miss, am_s1_eq, am_s2_eq, am_fl_nil, am_fl_hit, am_fl_int, am_fl_ref, am_fl_long, am_fl_longx, am_fl2_nil, am_fl2_hit, am_fl2_hit1, am_fl2_int, am_fl2_ref, am_fl2_long, List.not_mem_nil, not_false_eq_true, ne_eq, Nat.reduceAdd, Nat.reduceEqDiff, Nat.zero_add, Nat.add_left_cancel_iff, List.set_cons_zero, List.set_cons_succ, List.length_cons, List.length_nil, Nat.reduceLT, am_ft_i, am_ft_r, am_ft_z, and_true, true_and, Option.toList_some, Option.toList_none, List.cons_append, List.nil_append, List.drop_succ_cons, List.drop_zero, iI_c, iI_b, iI_s, iI_n, iI_add, iI_sub, iI_mul, iI_neg, iI_nle, iI_ix, iI_eq0, iI_eq1, iI_lt0, iI_0lt, iI_le0, iI_0le, iI_eq, iI_lt, iI_le, iI_upd, iI_updZ, Int.reduceEq, Int.reduceLT, Int.reduceLE, Int.reduceNeg, Int.reduceNe, tO, ts_fs_len, ts_f0, ts_f1, ts_f2, ts_f3, ts_f4, ts_s4, ty_fs_len, ty_f0, ty_f1, ty_f2, ty_f3, ty_f4, ty_f5, ty_f6, ty_f7, ty_f8, ty_f9, ty_s0, ty_t1, ty_l1, ty_t2, ty_l2, ty_t3, ty_l3, ty_t11, ty_l11, ty_t12, ty_l12, ty_t13, ty_l13, ty_t14, ty_l14, bo_fs_len, bo_f0, bo_f1, bo_f2, bo_f3, bo_f4, bo_f5, bo_f6, bo_f7, bo_f8, bo_s0, ru_fs_len, ru_f0, ru_f1, ru_f2, ru_f3, ru_f4, ru_f5, ru_f6, ru_f7, ru_f8, ru_f9, ru_f10, ru_f11, ru_f12, ru_f13, ru_s0, ru_t2, ru_l2, ru_t3, ru_l3, ru_t4, ru_l4, ru_t5, ru_l5, ru_t10, ru_l10, ru_t11, ru_l11, ru_t12, ru_l12, ru_t13, ru_l13, ru_t14, ru_l14, ru_t15, ru_l15, lo_fs_len, lo_f0, lo_f1, lo_s0, rw_hit]
  refine am_go_call c_TS_turn_3 (by decide) (by decide) (by first | (simp [am_can, am_kd, Value.category, bO]; done) | (simp [am_can, am_kd, am_b, am_c, Value.category, bO]; done) | (simp (disch := omega) [am_can, am_kd, am_b, am_c, Value.category, am_put_1, am_up_hit, am_up_miss, bO]; done)) ?_
  refine (ct_hasThread d (by omega) h (o + 23) (o + 1) M B K E.2.1 (by rw [hBo.1]; omega) z hz).mono (fun r9 h' hr9 => ?_)
  obtain ⟨rfl, rfl⟩ := hr9
  have eM := hBo.1
  rw [show (if 0 ≤ z ∧ z < M then (1 : Int) else 0) = if 0 ≤ z ∧ z < I 1 then 1 else 0 by rw [eM]]
  by_cases c : 0 ≤ z ∧ z < I 1
  · rw [if_pos c]
    have hz3 : 0 ≤ z ∧ z < 3 := by omega
    have e1 := hv.1.2.1 z hz3
    have e11 := hv.2.2.2.2.2.2.2.2.2.2.2.1 z hz3
    refine am_go_of 10 [3, 10, 24] _ c_TS_turn_4 ?_
    simp (maxSteps := 2000000) (disch := omega) only [c_TS_turn_0, c_TS_turn_1, c_TS_turn_2, c_TS_turn_3, c_TS_turn_4, c_TS_turn_5, c_TS_turn_6, c_TS_turn_7, c_TS_turn_8, c_TS_turn_9, c_TS_turn_10, c_TS_turn_11, c_TS_turn_12, c_TS_turn_13, c_TS_turn_14, c_TS_turn_15, c_TS_turn_16, c_TS_turn_17, c_TS_turn_18, c_TS_turn_19, c_TS_turn_20, c_TS_turn_21, c_TS_turn_22, c_TS_turn_23, c_TS_turn_24, c_TS_turn_25, c_TS_turn_26, sx_aload_n, sx_bipush, sx_getfield, sx_iconst, sx_ifCond_ne, sx_if_icmp_lt, sx_if_icmp_ne, sx_iload_n, sx_ireturn, sx_istore_n, sx_zreturn, am_W_s, am_W_0, am_mm_some, List.mem_cons, or_false, false_or, or_self, or_true, true_or, reduceIte, if_false, if_true, am_o_some, am_o_none, am_o_bad, am_o_good, am_ldi_hit, am_ldi_miss, am_lda_hit, am_lda_miss, am_ldl_hit, am_ldl_miss, am_inc_eq, am_inc_hit, am_inc_miss, am_ob_hit, am_fd_0, am_fd_s, am_ai_hit, am_ab_3, am_al_hit, am_aq_4, am_al0_hit, am_put_1, am_put_2, am_put_put, am_up_hit, am_up_miss, am_s1_eq, am_s2_eq, am_fl_nil, am_fl_hit, am_fl_int, am_fl_ref, am_fl_long, am_fl_longx, am_fl2_nil, am_fl2_hit, am_fl2_hit1, am_fl2_int, am_fl2_ref, am_fl2_long, List.not_mem_nil, not_false_eq_true, ne_eq, Nat.reduceAdd, Nat.reduceEqDiff, Nat.zero_add, Nat.add_left_cancel_iff, List.set_cons_zero, List.set_cons_succ, List.length_cons, List.length_nil, Nat.reduceLT, am_ft_i, am_ft_r, am_ft_z, and_true, true_and, Option.toList_some, Option.toList_none, List.cons_append, List.nil_append, List.drop_succ_cons, List.drop_zero, iI_c, iI_b, iI_s, iI_n, iI_add, iI_sub, iI_mul, iI_neg, iI_nle, iI_ix, iI_eq0, iI_eq1, iI_lt0, iI_0lt, iI_le0, iI_0le, iI_eq, iI_lt, iI_le, iI_upd, iI_updZ, Int.reduceEq, Int.reduceLT, Int.reduceLE, Int.reduceNeg, Int.reduceNe, tO, ts_fs_len, ts_f0, ts_f1, ts_f2, ts_f3, ts_f4, ts_s4, ty_fs_len, ty_f0, ty_f1, ty_f2, ty_f3, ty_f4, ty_f5, ty_f6, ty_f7, ty_f8, ty_f9, ty_s0, ty_t1, ty_l1, ty_t2, ty_l2, ty_t3, ty_l3, ty_t11, ty_l11, ty_t12, ty_l12, ty_t13, ty_l13, ty_t14, ty_l14, bo_fs_len, bo_f0, bo_f1, bo_f2, bo_f3, bo_f4, bo_f5, bo_f6, bo_f7, bo_f8, bo_s0, ru_fs_len, ru_f0, ru_f1, ru_f2, ru_f3, ru_f4, ru_f5, ru_f6, ru_f7, ru_f8, ru_f9, ru_f10, ru_f11, ru_f12, ru_f13, ru_s0, ru_t2, ru_l2, ru_t3, ru_l3, ru_t4, ru_l4, ru_t5, ru_l5, ru_t10, ru_l10, ru_t11, ru_l11, ru_t12, ru_l12, ru_t13, ru_l13, ru_t14, ru_l14, ru_t15, ru_l15, lo_fs_len, lo_f0, lo_f1, lo_s0, rw_hit]
    refine am_go_call c_TS_turn_10 (by decide) (by decide) (by first | (simp [am_can, am_kd, Value.category, hO]; done) | (simp [am_can, am_kd, am_b, am_c, Value.category, hO]; done) | (simp (disch := omega) [am_can, am_kd, am_b, am_c, Value.category, am_put_1, am_up_hit, am_up_miss, hO]; done)) ?_
    refine (ct_RendOf d (by omega) h' (o + 76) (o + 1) (o + 23) n m X S H N A R M B K E I F hr hT hBo r hv ho z c).mono (fun r9 h1 hr9 => ?_)
    obtain ⟨rfl, rfl⟩ := hr9
    have vE : F 13 (36 + z) = r_en r z := by rw [h13]; exact v_en hz3.1 hz3.2
    by_cases ce : r_en r z = 0
    · have ea : an_turn I F z = sp_has F (F 13) z := (if_pos c).trans (if_pos (vE.trans ce))
      by_cases cw2 : sp_waits F (vec r) z = -1
      · have eh : sp_has F (F 13) z = 1 := by
          unfold sp_has
          rw [vE, h13]
          exact if_pos ⟨ce, cw2⟩
        have ee : sp_end F (vec r) z = 0 := by
          unfold sp_end
          rw [v_en hz3.1 hz3.2, if_neg (fun q => q ce), if_neg (fun q => q cw2)]
        rw [ea, eh, ee]
        refine am_go_of 20 [3, 10, 24] _ c_TS_turn_11 ?_
        simp (maxSteps := 2000000) (disch := omega) only [c_TS_turn_0, c_TS_turn_1, c_TS_turn_2, c_TS_turn_3, c_TS_turn_4, c_TS_turn_5, c_TS_turn_6, c_TS_turn_7, c_TS_turn_8, c_TS_turn_9, c_TS_turn_10, c_TS_turn_11, c_TS_turn_12, c_TS_turn_13, c_TS_turn_14, c_TS_turn_15, c_TS_turn_16, c_TS_turn_17, c_TS_turn_18, c_TS_turn_19, c_TS_turn_20, c_TS_turn_21, c_TS_turn_22, c_TS_turn_23, c_TS_turn_24, c_TS_turn_25, c_TS_turn_26, sx_aload_n, sx_bipush, sx_getfield, sx_iconst, sx_ifCond_ne, sx_if_icmp_lt, sx_if_icmp_ne, sx_iload_n, sx_ireturn, sx_istore_n, sx_zreturn, am_W_s, am_W_0, am_mm_some, List.mem_cons, or_false, false_or, or_self, or_true, true_or, reduceIte, if_false, if_true, am_o_some, am_o_none, am_o_bad, am_o_good, am_ldi_hit, am_ldi_miss, am_lda_hit, am_lda_miss, am_ldl_hit, am_ldl_miss, am_inc_eq, am_inc_hit, am_inc_miss, am_ob_hit, am_fd_0, am_fd_s, am_ai_hit, am_ab_3, am_al_hit, am_aq_4, am_al0_hit, am_put_1, am_put_2, am_put_put, am_up_hit, am_up_miss, am_s1_eq, am_s2_eq, am_fl_nil, am_fl_hit, am_fl_int, am_fl_ref, am_fl_long, am_fl_longx, am_fl2_nil, am_fl2_hit, am_fl2_hit1, am_fl2_int, am_fl2_ref, am_fl2_long, List.not_mem_nil, not_false_eq_true, ne_eq, Nat.reduceAdd, Nat.reduceEqDiff, Nat.zero_add, Nat.add_left_cancel_iff, List.set_cons_zero, List.set_cons_succ, List.length_cons, List.length_nil, Nat.reduceLT, am_ft_i, am_ft_r, am_ft_z, and_true, true_and, Option.toList_some, Option.toList_none, List.cons_append, List.nil_append, List.drop_succ_cons, List.drop_zero, iI_c, iI_b, iI_s, iI_n, iI_add, iI_sub, iI_mul, iI_neg, iI_nle, iI_ix, iI_eq0, iI_eq1, iI_lt0, iI_0lt, iI_le0, iI_0le, iI_eq, iI_lt, iI_le, iI_upd, iI_updZ, Int.reduceEq, Int.reduceLT, Int.reduceLE, Int.reduceNeg, Int.reduceNe, ts_fs_len, ts_f0, ts_f1, ts_f2, ts_f3, ts_f4, ts_s4, ty_fs_len, ty_f0, ty_f1, ty_f2, ty_f3, ty_f4, ty_f5, ty_f6, ty_f7, ty_f8, ty_f9, ty_s0, ty_t1, ty_l1, ty_t2, ty_l2, ty_t3, ty_l3, ty_t11, ty_l11, ty_t12, ty_l12, ty_t13, ty_l13, ty_t14, ty_l14, bo_fs_len, bo_f0, bo_f1, bo_f2, bo_f3, bo_f4, bo_f5, bo_f6, bo_f7, bo_f8, bo_s0, ru_fs_len, ru_f0, ru_f1, ru_f2, ru_f3, ru_f4, ru_f5, ru_f6, ru_f7, ru_f8, ru_f9, ru_f10, ru_f11, ru_f12, ru_f13, ru_s0, ru_t2, ru_l2, ru_t3, ru_l3, ru_t4, ru_l4, ru_t5, ru_l5, ru_t10, ru_l10, ru_t11, ru_l11, ru_t12, ru_l12, ru_t13, ru_l13, ru_t14, ru_l14, ru_t15, ru_l15, lo_fs_len, lo_f0, lo_f1, lo_s0, rw_hit]
        refine am_go_call c_TS_turn_24 (by decide) (by decide) (by first | (simp [am_can, am_kd, Value.category, tO]; done) | (simp [am_can, am_kd, am_b, am_c, Value.category, tO]; done) | (simp (disch := omega) [am_can, am_kd, am_b, am_c, Value.category, am_put_1, am_up_hit, am_up_miss, tO]; done)) ?_
        refine (ct_makeStep d (by omega) h1 o v N A R M B K n m X S T I F r hmd h3 hk z c (by rw [← eh, h13]; rfl)).mono (fun r9 h2 hr9 => ?_)
        obtain ⟨rfl, w⟩ := hr9
        refine am_go_of 10 [3, 10, 24] _ c_TS_turn_25 ?_
        simp (maxSteps := 2000000) (disch := omega) only [c_TS_turn_0, c_TS_turn_1, c_TS_turn_2, c_TS_turn_3, c_TS_turn_4, c_TS_turn_5, c_TS_turn_6, c_TS_turn_7, c_TS_turn_8, c_TS_turn_9, c_TS_turn_10, c_TS_turn_11, c_TS_turn_12, c_TS_turn_13, c_TS_turn_14, c_TS_turn_15, c_TS_turn_16, c_TS_turn_17, c_TS_turn_18, c_TS_turn_19, c_TS_turn_20, c_TS_turn_21, c_TS_turn_22, c_TS_turn_23, c_TS_turn_24, c_TS_turn_25, c_TS_turn_26, sx_aload_n, sx_bipush, sx_getfield, sx_iconst, sx_ifCond_ne, sx_if_icmp_lt, sx_if_icmp_ne, sx_iload_n, sx_ireturn, sx_istore_n, sx_zreturn, am_W_s, am_W_0, am_mm_some, List.mem_cons, or_false, false_or, or_self, or_true, true_or, reduceIte, if_false, if_true, am_o_some, am_o_none, am_o_bad, am_o_good, am_ldi_hit, am_ldi_miss, am_lda_hit, am_lda_miss, am_ldl_hit, am_ldl_miss, am_inc_eq, am_inc_hit, am_inc_miss, am_ob_hit, am_fd_0, am_fd_s, am_ai_hit, am_ab_3, am_al_hit, am_aq_4, am_al0_hit, am_put_1, am_put_2, am_put_put, am_up_hit, am_up_miss, am_s1_eq, am_s2_eq, am_fl_nil, am_fl_hit, am_fl_int, am_fl_ref, am_fl_long, am_fl_longx, am_fl2_nil, am_fl2_hit, am_fl2_hit1, am_fl2_int, am_fl2_ref, am_fl2_long, List.not_mem_nil, not_false_eq_true, ne_eq, Nat.reduceAdd, Nat.reduceEqDiff, Nat.zero_add, Nat.add_left_cancel_iff, List.set_cons_zero, List.set_cons_succ, List.length_cons, List.length_nil, Nat.reduceLT, am_ft_i, am_ft_r, am_ft_z, and_true, true_and, Option.toList_some, Option.toList_none, List.cons_append, List.nil_append, List.drop_succ_cons, List.drop_zero, iI_c, iI_b, iI_s, iI_n, iI_add, iI_sub, iI_mul, iI_neg, iI_nle, iI_ix, iI_eq0, iI_eq1, iI_lt0, iI_0lt, iI_le0, iI_0le, iI_eq, iI_lt, iI_le, iI_upd, iI_updZ, Int.reduceEq, Int.reduceLT, Int.reduceLE, Int.reduceNeg, Int.reduceNe, ne_eq, not_true, false_implies, true_implies, ts_fs_len, ts_f0, ts_f1, ts_f2, ts_f3, ts_f4, ts_s4, ty_fs_len, ty_f0, ty_f1, ty_f2, ty_f3, ty_f4, ty_f5, ty_f6, ty_f7, ty_f8, ty_f9, ty_s0, ty_t1, ty_l1, ty_t2, ty_l2, ty_t3, ty_l3, ty_t11, ty_l11, ty_t12, ty_l12, ty_t13, ty_l13, ty_t14, ty_l14, bo_fs_len, bo_f0, bo_f1, bo_f2, bo_f3, bo_f4, bo_f5, bo_f6, bo_f7, bo_f8, bo_s0, ru_fs_len, ru_f0, ru_f1, ru_f2, ru_f3, ru_f4, ru_f5, ru_f6, ru_f7, ru_f8, ru_f9, ru_f10, ru_f11, ru_f12, ru_f13, ru_s0, ru_t2, ru_l2, ru_t3, ru_l3, ru_t4, ru_l4, ru_t5, ru_l5, ru_t10, ru_l10, ru_t11, ru_l11, ru_t12, ru_l12, ru_t13, ru_l13, ru_t14, ru_l14, ru_t15, ru_l15, lo_fs_len, lo_f0, lo_f1, lo_s0, rw_hit]
        exact w
      · have eh : sp_has F (F 13) z = 0 := by
          unfold sp_has
          rw [vE, h13]
          exact if_neg (fun q => cw2 q.2)
        have ee : sp_end F (vec r) z = 1 := by
          unfold sp_end
          rw [v_en hz3.1 hz3.2, if_neg (fun q => q ce), if_pos cw2]
        rw [ea, eh, ee]
        refine am_go_of 20 [3, 10, 24] _ c_TS_turn_11 ?_
        simp (maxSteps := 2000000) (disch := omega) only [c_TS_turn_0, c_TS_turn_1, c_TS_turn_2, c_TS_turn_3, c_TS_turn_4, c_TS_turn_5, c_TS_turn_6, c_TS_turn_7, c_TS_turn_8, c_TS_turn_9, c_TS_turn_10, c_TS_turn_11, c_TS_turn_12, c_TS_turn_13, c_TS_turn_14, c_TS_turn_15, c_TS_turn_16, c_TS_turn_17, c_TS_turn_18, c_TS_turn_19, c_TS_turn_20, c_TS_turn_21, c_TS_turn_22, c_TS_turn_23, c_TS_turn_24, c_TS_turn_25, c_TS_turn_26, sx_aload_n, sx_bipush, sx_getfield, sx_iconst, sx_ifCond_ne, sx_if_icmp_lt, sx_if_icmp_ne, sx_iload_n, sx_ireturn, sx_istore_n, sx_zreturn, am_W_s, am_W_0, am_mm_some, List.mem_cons, or_false, false_or, or_self, or_true, true_or, reduceIte, if_false, if_true, am_o_some, am_o_none, am_o_bad, am_o_good, am_ldi_hit, am_ldi_miss, am_lda_hit, am_lda_miss, am_ldl_hit, am_ldl_miss, am_inc_eq, am_inc_hit, am_inc_miss, am_ob_hit, am_fd_0, am_fd_s, am_ai_hit, am_ab_3, am_al_hit, am_aq_4, am_al0_hit, am_put_1, am_put_2, am_put_put, am_up_hit, am_up_miss, am_s1_eq, am_s2_eq, am_fl_nil, am_fl_hit, am_fl_int, am_fl_ref, am_fl_long, am_fl_longx, am_fl2_nil, am_fl2_hit, am_fl2_hit1, am_fl2_int, am_fl2_ref, am_fl2_long, List.not_mem_nil, not_false_eq_true, ne_eq, Nat.reduceAdd, Nat.reduceEqDiff, Nat.zero_add, Nat.add_left_cancel_iff, List.set_cons_zero, List.set_cons_succ, List.length_cons, List.length_nil, Nat.reduceLT, am_ft_i, am_ft_r, am_ft_z, and_true, true_and, Option.toList_some, Option.toList_none, List.cons_append, List.nil_append, List.drop_succ_cons, List.drop_zero, iI_c, iI_b, iI_s, iI_n, iI_add, iI_sub, iI_mul, iI_neg, iI_nle, iI_ix, iI_eq0, iI_eq1, iI_lt0, iI_0lt, iI_le0, iI_0le, iI_eq, iI_lt, iI_le, iI_upd, iI_updZ, Int.reduceEq, Int.reduceLT, Int.reduceLE, Int.reduceNeg, Int.reduceNe, ts_fs_len, ts_f0, ts_f1, ts_f2, ts_f3, ts_f4, ts_s4, ty_fs_len, ty_f0, ty_f1, ty_f2, ty_f3, ty_f4, ty_f5, ty_f6, ty_f7, ty_f8, ty_f9, ty_s0, ty_t1, ty_l1, ty_t2, ty_l2, ty_t3, ty_l3, ty_t11, ty_l11, ty_t12, ty_l12, ty_t13, ty_l13, ty_t14, ty_l14, bo_fs_len, bo_f0, bo_f1, bo_f2, bo_f3, bo_f4, bo_f5, bo_f6, bo_f7, bo_f8, bo_s0, ru_fs_len, ru_f0, ru_f1, ru_f2, ru_f3, ru_f4, ru_f5, ru_f6, ru_f7, ru_f8, ru_f9, ru_f10, ru_f11, ru_f12, ru_f13, ru_s0, ru_t2, ru_l2, ru_t3, ru_l3, ru_t4, ru_l4, ru_t5, ru_l5, ru_t10, ru_l10, ru_t11, ru_l11, ru_t12, ru_l12, ru_t13, ru_l13, ru_t14, ru_l14, ru_t15, ru_l15, lo_fs_len, lo_f0, lo_f1, lo_s0, rw_hit]
        all_goals (first | trivial | rfl | exact ⟨fun _ => rfl, fun z => absurd z (by decide)⟩ | exact ⟨rfl, fun _ => rfl, fun z => absurd z (by decide)⟩ | simp)
    · have ea : an_turn I F z = -3 := (if_pos c).trans (if_neg (by rw [vE]; exact ce))
      have ee : sp_end F (vec r) z = r_en r z := by
        unfold sp_end
        rw [v_en hz3.1 hz3.2, if_pos ce]
      have c2 : ¬ r_en r z < 2 := by have := e11 ce; omega
      rw [ea, ee]
      refine am_go_of 20 [3, 10, 24] _ c_TS_turn_11 ?_
      simp (maxSteps := 2000000) (disch := omega) only [c_TS_turn_0, c_TS_turn_1, c_TS_turn_2, c_TS_turn_3, c_TS_turn_4, c_TS_turn_5, c_TS_turn_6, c_TS_turn_7, c_TS_turn_8, c_TS_turn_9, c_TS_turn_10, c_TS_turn_11, c_TS_turn_12, c_TS_turn_13, c_TS_turn_14, c_TS_turn_15, c_TS_turn_16, c_TS_turn_17, c_TS_turn_18, c_TS_turn_19, c_TS_turn_20, c_TS_turn_21, c_TS_turn_22, c_TS_turn_23, c_TS_turn_24, c_TS_turn_25, c_TS_turn_26, sx_aload_n, sx_bipush, sx_getfield, sx_iconst, sx_ifCond_ne, sx_if_icmp_lt, sx_if_icmp_ne, sx_iload_n, sx_ireturn, sx_istore_n, sx_zreturn, am_W_s, am_W_0, am_mm_some, List.mem_cons, or_false, false_or, or_self, or_true, true_or, reduceIte, if_false, if_true, am_o_some, am_o_none, am_o_bad, am_o_good, am_ldi_hit, am_ldi_miss, am_lda_hit, am_lda_miss, am_ldl_hit, am_ldl_miss, am_inc_eq, am_inc_hit, am_inc_miss, am_ob_hit, am_fd_0, am_fd_s, am_ai_hit, am_ab_3, am_al_hit, am_aq_4, am_al0_hit, am_put_1, am_put_2, am_put_put, am_up_hit, am_up_miss, am_s1_eq, am_s2_eq, am_fl_nil, am_fl_hit, am_fl_int, am_fl_ref, am_fl_long, am_fl_longx, am_fl2_nil, am_fl2_hit, am_fl2_hit1, am_fl2_int, am_fl2_ref, am_fl2_long, List.not_mem_nil, not_false_eq_true, ne_eq, Nat.reduceAdd, Nat.reduceEqDiff, Nat.zero_add, Nat.add_left_cancel_iff, List.set_cons_zero, List.set_cons_succ, List.length_cons, List.length_nil, Nat.reduceLT, am_ft_i, am_ft_r, am_ft_z, and_true, true_and, Option.toList_some, Option.toList_none, List.cons_append, List.nil_append, List.drop_succ_cons, List.drop_zero, iI_c, iI_b, iI_s, iI_n, iI_add, iI_sub, iI_mul, iI_neg, iI_nle, iI_ix, iI_eq0, iI_eq1, iI_lt0, iI_0lt, iI_le0, iI_0le, iI_eq, iI_lt, iI_le, iI_upd, iI_updZ, Int.reduceEq, Int.reduceLT, Int.reduceLE, Int.reduceNeg, Int.reduceNe, c2, ts_fs_len, ts_f0, ts_f1, ts_f2, ts_f3, ts_f4, ts_s4, ty_fs_len, ty_f0, ty_f1, ty_f2, ty_f3, ty_f4, ty_f5, ty_f6, ty_f7, ty_f8, ty_f9, ty_s0, ty_t1, ty_l1, ty_t2, ty_l2, ty_t3, ty_l3, ty_t11, ty_l11, ty_t12, ty_l12, ty_t13, ty_l13, ty_t14, ty_l14, bo_fs_len, bo_f0, bo_f1, bo_f2, bo_f3, bo_f4, bo_f5, bo_f6, bo_f7, bo_f8, bo_s0, ru_fs_len, ru_f0, ru_f1, ru_f2, ru_f3, ru_f4, ru_f5, ru_f6, ru_f7, ru_f8, ru_f9, ru_f10, ru_f11, ru_f12, ru_f13, ru_s0, ru_t2, ru_l2, ru_t3, ru_l3, ru_t4, ru_l4, ru_t5, ru_l5, ru_t10, ru_l10, ru_t11, ru_l11, ru_t12, ru_l12, ru_t13, ru_l13, ru_t14, ru_l14, ru_t15, ru_l15, lo_fs_len, lo_f0, lo_f1, lo_s0, rw_hit]
      all_goals (first | trivial | rfl | exact ⟨fun _ => rfl, fun z => absurd z (by decide)⟩ | exact ⟨rfl, fun _ => rfl, fun z => absurd z (by decide)⟩ | simp)
  · have ea : an_turn I F z = -1 := if_neg c
    rw [ea, if_neg c]
    refine am_go_of 10 [3, 10, 24] _ c_TS_turn_4 ?_
    simp (maxSteps := 2000000) (disch := omega) only [c_TS_turn_0, c_TS_turn_1, c_TS_turn_2, c_TS_turn_3, c_TS_turn_4, c_TS_turn_5, c_TS_turn_6, c_TS_turn_7, c_TS_turn_8, c_TS_turn_9, c_TS_turn_10, c_TS_turn_11, c_TS_turn_12, c_TS_turn_13, c_TS_turn_14, c_TS_turn_15, c_TS_turn_16, c_TS_turn_17, c_TS_turn_18, c_TS_turn_19, c_TS_turn_20, c_TS_turn_21, c_TS_turn_22, c_TS_turn_23, c_TS_turn_24, c_TS_turn_25, c_TS_turn_26, sx_aload_n, sx_bipush, sx_getfield, sx_iconst, sx_ifCond_ne, sx_if_icmp_lt, sx_if_icmp_ne, sx_iload_n, sx_ireturn, sx_istore_n, sx_zreturn, am_W_s, am_W_0, am_mm_some, List.mem_cons, or_false, false_or, or_self, or_true, true_or, reduceIte, if_false, if_true, am_o_some, am_o_none, am_o_bad, am_o_good, am_ldi_hit, am_ldi_miss, am_lda_hit, am_lda_miss, am_ldl_hit, am_ldl_miss, am_inc_eq, am_inc_hit, am_inc_miss, am_ob_hit, am_fd_0, am_fd_s, am_ai_hit, am_ab_3, am_al_hit, am_aq_4, am_al0_hit, am_put_1, am_put_2, am_put_put, am_up_hit, am_up_miss, am_s1_eq, am_s2_eq, am_fl_nil, am_fl_hit, am_fl_int, am_fl_ref, am_fl_long, am_fl_longx, am_fl2_nil, am_fl2_hit, am_fl2_hit1, am_fl2_int, am_fl2_ref, am_fl2_long, List.not_mem_nil, not_false_eq_true, ne_eq, Nat.reduceAdd, Nat.reduceEqDiff, Nat.zero_add, Nat.add_left_cancel_iff, List.set_cons_zero, List.set_cons_succ, List.length_cons, List.length_nil, Nat.reduceLT, am_ft_i, am_ft_r, am_ft_z, and_true, true_and, Option.toList_some, Option.toList_none, List.cons_append, List.nil_append, List.drop_succ_cons, List.drop_zero, iI_c, iI_b, iI_s, iI_n, iI_add, iI_sub, iI_mul, iI_neg, iI_nle, iI_ix, iI_eq0, iI_eq1, iI_lt0, iI_0lt, iI_le0, iI_0le, iI_eq, iI_lt, iI_le, iI_upd, iI_updZ, Int.reduceEq, Int.reduceLT, Int.reduceLE, Int.reduceNeg, Int.reduceNe, ts_fs_len, ts_f0, ts_f1, ts_f2, ts_f3, ts_f4, ts_s4, ty_fs_len, ty_f0, ty_f1, ty_f2, ty_f3, ty_f4, ty_f5, ty_f6, ty_f7, ty_f8, ty_f9, ty_s0, ty_t1, ty_l1, ty_t2, ty_l2, ty_t3, ty_l3, ty_t11, ty_l11, ty_t12, ty_l12, ty_t13, ty_l13, ty_t14, ty_l14, bo_fs_len, bo_f0, bo_f1, bo_f2, bo_f3, bo_f4, bo_f5, bo_f6, bo_f7, bo_f8, bo_s0, ru_fs_len, ru_f0, ru_f1, ru_f2, ru_f3, ru_f4, ru_f5, ru_f6, ru_f7, ru_f8, ru_f9, ru_f10, ru_f11, ru_f12, ru_f13, ru_s0, ru_t2, ru_l2, ru_t3, ru_l3, ru_t4, ru_l4, ru_t5, ru_l5, ru_t10, ru_l10, ru_t11, ru_l11, ru_t12, ru_l12, ru_t13, ru_l13, ru_t14, ru_l14, ru_t15, ru_l15, lo_fs_len, lo_f0, lo_f1, lo_s0, rw_hit]
    all_goals (first | trivial | rfl | exact ⟨fun _ => rfl, fun z => absurd z (by decide)⟩ | exact ⟨rfl, fun _ => rfl, fun z => absurd z (by decide)⟩ | simp)
