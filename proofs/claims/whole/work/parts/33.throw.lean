theorem ct_throwsOn (d : Nat) (hd : 3 ≤ d) (h : am_H) (o : Nat) (I : Nat → Int) (F : Nat → Int → Int) (r : rn) (H : md_at h o I F) (h13 : F 13 = vec r) (hr : md_rg I F) (hv : rn_iv I F r) (hl : lg_ok I r) (th n b : Int) (hth : 0 ≤ th ∧ th < I 1) (hen : r_en r th = 0) (hn : 1 ≤ n ∧ n ≤ 5) (hb : th_ok F r th b) :
    am_Ct am_df am_MT d 133 [.ref o, .int (iI th), .int (iI n), .int (iI b)] h (fun r0 h' => r0 = none ∧ md_to h o (sp_LI (sq_thr (F 12) th 14 r n b).2 I) (sp_LF (sq_thr (F 12) th 14 r n b).2 I (va_up F 13 (vec (sq_thr (F 12) th 14 r n b).1))) h') := by
  have hth3 : 0 ≤ th ∧ th < 3 := by have := hr.1; omega
  have e1 := hv.1.2.1 th hth3
  have e2 := hb.1
  obtain ⟨d, rfl⟩ : ∃ e, d = e + 1 := ⟨d - 1, by omega⟩
  refine am_ct_of2 mt_Md_throwsOn (Nat.le_of_ble_eq_true rfl) ?_
  simp only [ar_nil, ar_int, ar_ref, ar_long, Nat.reduceAdd]
  refine am_go_of 10 [6, 10, 50, 53, 63, 81, 84] _ c_Md_throwsOn_0 ?_
  simp (maxSteps := 2000000) (disch := omega) only [c_Md_throwsOn_0, c_Md_throwsOn_1, c_Md_throwsOn_2, c_Md_throwsOn_3, c_Md_throwsOn_4, c_Md_throwsOn_5, c_Md_throwsOn_6, c_Md_throwsOn_7, c_Md_throwsOn_8, c_Md_throwsOn_9, c_Md_throwsOn_10, c_Md_throwsOn_11, c_Md_throwsOn_12, c_Md_throwsOn_13, c_Md_throwsOn_14, c_Md_throwsOn_15, c_Md_throwsOn_16, c_Md_throwsOn_17, c_Md_throwsOn_18, c_Md_throwsOn_19, c_Md_throwsOn_20, c_Md_throwsOn_21, c_Md_throwsOn_22, c_Md_throwsOn_23, c_Md_throwsOn_24, c_Md_throwsOn_25, c_Md_throwsOn_26, c_Md_throwsOn_27, c_Md_throwsOn_28, c_Md_throwsOn_29, c_Md_throwsOn_30, c_Md_throwsOn_31, c_Md_throwsOn_32, c_Md_throwsOn_33, c_Md_throwsOn_34, c_Md_throwsOn_35, c_Md_throwsOn_36, c_Md_throwsOn_37, c_Md_throwsOn_38, c_Md_throwsOn_39, c_Md_throwsOn_40, c_Md_throwsOn_41, c_Md_throwsOn_42, c_Md_throwsOn_43, c_Md_throwsOn_44, c_Md_throwsOn_45, c_Md_throwsOn_46, c_Md_throwsOn_47, c_Md_throwsOn_48, c_Md_throwsOn_49, c_Md_throwsOn_50, c_Md_throwsOn_51, c_Md_throwsOn_52, c_Md_throwsOn_53, c_Md_throwsOn_54, c_Md_throwsOn_55, c_Md_throwsOn_56, c_Md_throwsOn_57, c_Md_throwsOn_58, c_Md_throwsOn_59, c_Md_throwsOn_60, c_Md_throwsOn_61, c_Md_throwsOn_62, c_Md_throwsOn_63, c_Md_throwsOn_64, c_Md_throwsOn_65, c_Md_throwsOn_66, c_Md_throwsOn_67, c_Md_throwsOn_68, c_Md_throwsOn_69, c_Md_throwsOn_70, c_Md_throwsOn_71, c_Md_throwsOn_72, c_Md_throwsOn_73, c_Md_throwsOn_74, c_Md_throwsOn_75, c_Md_throwsOn_76, c_Md_throwsOn_77, c_Md_throwsOn_78, c_Md_throwsOn_79, c_Md_throwsOn_80, c_Md_throwsOn_81, c_Md_throwsOn_82, c_Md_throwsOn_83, c_Md_throwsOn_84, c_Md_throwsOn_85, c_Md_throwsOn_86, c_Md_throwsOn_87, c_Md_throwsOn_88, c_Md_throwsOn_89, c_Md_throwsOn_90, c_Md_throwsOn_91, c_Md_throwsOn_92, c_Md_throwsOn_93, c_Md_throwsOn_94, c_Md_throwsOn_95, c_Md_throwsOn_96, c_Md_throwsOn_97, c_Md_throwsOn_98, c_Md_throwsOn_99, c_Md_throwsOn_100, c_Md_throwsOn_101, sx_aload_n, sx_baload, sx_bipush, sx_getfield, sx_goto, sx_iadd, sx_iaload, sx_iconst, sx_ifCond_eq, sx_ifCond_lt, sx_ifCond_ne, sx_if_icmp_eq, sx_if_icmp_ne, sx_iload, sx_iload_n, sx_imul, sx_istore, sx_return, am_W_s, am_W_0, am_mm_some, List.mem_cons, or_false, false_or, or_self, or_true, true_or, reduceIte, if_false, if_true, am_o_some, am_o_none, am_o_bad, am_o_good, am_ldi_hit, am_ldi_miss, am_lda_hit, am_lda_miss, am_ldl_hit, am_ldl_miss, am_inc_eq, am_inc_hit, am_inc_miss, am_ob_hit, am_fd_0, am_fd_s, am_ai_hit, am_ab_3, am_al_hit, am_aq_4, am_al0_hit, am_put_1, am_put_2, am_put_put, am_up_hit, am_up_miss, am_s1_eq, am_s2_eq, am_fl_nil, am_fl_hit, am_fl_int, am_fl_ref, am_fl_long, am_fl_longx, am_fl2_nil, am_fl2_hit, am_fl2_hit1, am_fl2_int, am_fl2_ref, am_fl2_long, List.not_mem_nil, not_false_eq_true, ne_eq, Nat.reduceAdd, Nat.reduceEqDiff, Nat.zero_add, Nat.add_left_cancel_iff, List.set_cons_zero, List.set_cons_succ, List.length_cons, List.length_nil, Nat.reduceLT, am_ft_i, am_ft_r, am_ft_z, and_true, true_and, Option.toList_some, Option.toList_none, List.cons_append, List.nil_append, List.drop_succ_cons, List.drop_zero, iI_c, iI_b, iI_s, iI_n, iI_add, iI_sub, iI_mul, iI_neg, iI_nle, iI_ix, iI_eq0, iI_eq1, iI_lt0, iI_0lt, iI_le0, iI_0le, iI_eq, iI_lt, iI_le, iI_upd, iI_updZ, md_fs_len, md_f0, md_f1, md_f2, md_f3, md_f4, md_f5, md_f6, md_f7, md_f8, md_f9, md_f10, md_f11, md_f12, md_f13, md_f14, md_f15, md_f16, md_f17, md_f18, md_f19, md_f20, md_f21, md_f22, md_f23, md_f24, md_f25, md_f26, md_f27, md_f28, md_f29, md_f30, md_f31, md_f32, md_f33, md_f34, md_f35, md_s0, md_s1, md_s15, md_s16, md_s17, md_s23, md_s24, md_s31, md_t1, md_t2, md_t3, md_t4, md_t5, md_t6, md_t7, md_t8, md_t9, md_t10, md_t11, md_t12, md_t13, md_t14, md_t15, md_t16, md_t17, md_t18, md_t19, md_t20, md_t21, md_t22, md_t23, md_t24, md_t25, md_t26, md_t27, md_t28, md_l1, md_l2, md_l3, md_l4, md_l5, md_l6, md_l7, md_l8, md_l9, md_l10, md_l11, md_l12, md_l13, md_l14, md_l15, md_l16, md_l17, md_l18, md_l19, md_l20, md_l21, md_l22, md_l23, md_l24, md_l25, md_l26, md_l27, md_l28]
  exact (lp_throwsOn d (by omega) o th 14 h I F r n b H h13 hr hv hl hth hen hn hb (by omega)).lo (al_le_of (by simp) (by simp))
theorem iv_behind {I : Nat → Int} {F : Nat → Int → Int} {r : rn} (hr : md_rg I F) (hv : rn_iv I F r) {th : Int} (hth : 0 ≤ th ∧ th < I 1) (hen : r_en r th = 0) (hb : th_ok F r th 0) : rn_iv I F (sq_behind r th) ∧ ∀ a : Int, mu a (sq_behind r th) = mu a r - 1 := by
  have hth3 : 0 ≤ th ∧ th < 3 := by have := hr.1; omega
  have e1 := hv.1.2.1 th hth3
  have h8 := hr.2.2.2.2.1 (6 + th) ⟨by omega, by omega⟩
  have hw := hb.2.2 rfl
  unfold sq_behind
  by_cases c : r_mn r th = 0
  · have hw1 := hw.1 c
    rw [if_pos (show sq_top r th = -1 from if_pos c)]
    refine ⟨iv_ha hv hth c hen ⟨by omega, by omega, by omega⟩, fun a => ?_⟩
    rw [mu_ha hth3 hen]
    omega
  · have hw1 := hw.2 (by omega)
    have e4 := hv.1.2.2 th (r_mn r th - 1) hth3 ⟨by omega, by omega⟩
    have e5 := hv.2.2.2.1 th (r_mn r th - 1) hth3 ⟨by omega, by omega⟩
    have e6 := hv.1.1 (r_sk r th (r_mn r th - 1)) ⟨by omega, by omega⟩
    have h8 := hr.2.2.2.2.1 (r_sk r th (r_mn r th - 1)) ⟨by omega, by omega⟩
    rw [sq_top_m c, if_neg (by omega)]
    refine ⟨iv_at hv hth3 (by omega) hw1.1 ⟨by omega, by omega, by omega⟩, fun a => ?_⟩
    rw [mu_at ⟨by omega, by omega⟩ e5.1 hw1.1]
    omega
/-- a throw keeps the invariant; what may still come falls by as much as it logs -/
theorem sq_thr_ok {I : Nat → Int} {F : Nat → Int → Int} (hr : md_rg I F) {th : Int} (hth : 0 ≤ th ∧ th < I 1) : ∀ (k : Nat) (r : rn) (n b : Int), rn_iv I F r → r_en r th = 0 → (1 ≤ n ∧ n ≤ 5) → th_ok F r th b → 2 * r_mn r th + (1 - b) < k →
    rn_iv I F (sq_thr (F 12) th k r n b).1 ∧ 1 ≤ (sq_thr (F 12) th k r n b).2.length ∧ ∀ a : Int, 2 ≤ a → mu a (sq_thr (F 12) th k r n b).1 + (sq_thr (F 12) th k r n b).2.length ≤ mu a r := by
  have hth3 : 0 ≤ th ∧ th < 3 := by have := hr.1; omega
  intro k
  induction k with
  | zero =>
    intro r n b hv hen hn hb hm
    have e1 := hv.1.2.1 th hth3
    have := hb.1
    omega
  | succ k ih =>
    intro r n b hv hen hn hb hm
    have e1 := hv.1.2.1 th hth3
    unfold sq_thr
    rcases hb.1 with hb0 | hb1
    · subst hb0
      rw [if_pos rfl]
      split
      · have q := iv_behind hr hv hth hen hb
        refine ⟨q.1, Nat.le_refl 1, fun a _ => ?_⟩
        have := q.2 a
        simp only [List.length_cons, List.length_nil]
        omega
      · split
        · rename_i e3
          have hm0 : r_mn r th = 0 := by
            by_cases c : r_mn r th = 0
            · exact c
            · have := hv.1.2.2 th (r_mn r th - 1) hth3 ⟨by omega, by omega⟩
              rw [sq_top_m c] at e3
              omega
          refine ⟨iv_end hv (fun x hx => (hr.2.2.2.2.1 x hx).1) hth (by have := hr.1; omega) hm0 ⟨by omega, by omega⟩, Nat.le_refl 1, fun a _ => ?_⟩
          have := mu_end (a := a) hv.1 (n := n) hth3 hen (by omega)
          simp only [List.length_cons, List.length_nil]
          omega
        · rename_i e3
          have hm0 : r_mn r th ≠ 0 := fun c => e3 (if_pos c)
          exact ih r _ 1 hv hen (by split <;> omega) ⟨Or.inr rfl, fun _ => by omega, fun c => absurd c (by decide)⟩ (by omega)
    · subst hb1
      have hm1 := hb.2.1 rfl
      have etm : sq_top r th = r_sk r th (r_mn r th - 1) := sq_top_m (by omega)
      have e4 := hv.1.2.2 th (r_mn r th - 1) hth3 ⟨by omega, by omega⟩
      have e5 := hv.2.2.2.1 th (r_mn r th - 1) hth3 ⟨by omega, by omega⟩
      have hok := th_go hv hth3 hm1
      have hv1 : rn_iv I F (sq_go r th (sq_top r th) 3) := by
        rw [etm]
        exact iv_go hv (fun x hx => (hr.2.1 x hx).2.2.2.2.2.2.1) hth3 hm1 (Or.inr rfl)
      have hmu : ∀ a : Int, 2 ≤ a → mu a (sq_go r th (sq_top r th) 3) ≤ mu a r - 1 := fun a ha => mu_go ha hv.1 ⟨by omega, by omega⟩ (by rw [etm]; exact e5.1) (Or.inr rfl)
      have hmn1 : r_mn (sq_go r th (sq_top r th) 3) th = r_mn r th - 1 := vI_hit
      have hen1 : r_en (sq_go r th (sq_top r th) 3) th = 0 := hen
      rw [if_neg (by decide)]
      have q := ih _ n _ hv1 hen1 hn hok (by have := hok.1; omega)
      refine ⟨q.1, ?_, fun a ha => ?_⟩
      · simp only [List.length_cons]
        omega
      · have q2 := q.2.2 a ha
        have q3 := hmu a ha
        simp only [List.length_cons, Int.natCast_add, Int.natCast_one] at q2 ⊢
        omega
theorem lg_list {r r' : rn} : ∀ (L : List (Int × Int × Int)) (I : Nat → Int), lg_ok I r → mu 7 r' + L.length ≤ mu 7 r → lg_ok (sp_LI L I) r' := by
  intro L
  have aux : ∀ (L : List (Int × Int × Int)) (I : Nat → Int), (I 3 = 0 → sp_LI L I 3 = 0) ∧ (I 3 = 1 → sp_LI L I 3 = 1 ∧ sp_LI L I 4 = I 4 + L.length) := by
    intro L
    induction L with
    | nil => intro I; exact ⟨fun h => h, fun h => ⟨h, by simp [sp_LI]⟩⟩
    | cons e L ih =>
      intro I
      have q := ih (sp_lI I)
      have q3 : sp_lI I 3 = I 3 := sp_lI_k (by decide)
      rw [q3] at q
      refine ⟨q.1, fun h => ⟨(q.2 h).1, ?_⟩⟩
      have q4 := (q.2 h).2
      have q5 : sp_lI I 4 = I 4 + 1 := by
        unfold sp_lI
        rw [if_neg (by omega), va_up_hit]
      rw [q5] at q4
      show sp_LI L (sp_lI I) 4 = _
      rw [q4]
      simp only [List.length_cons, Int.natCast_add, Int.natCast_one]
      omega
  intro I h hm
  have q := aux L I
  unfold lg_ok at *
  rcases h with h | h
  · exact Or.inl (q.1 h)
  · have q2 := q.2 h.1
    refine Or.inr ⟨q2.1, ?_, ?_⟩ <;> omega
