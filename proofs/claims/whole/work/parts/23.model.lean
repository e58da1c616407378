theorem mt_Md_logs : am_MT[132]? = some m_Md_logs := rfl
theorem c_Md_logs_0 : c_Md_logs[0]? = some (0, 1, .aload_n 0, 0, 0, 0, 0, 0, []) := Eq.trans rfl rfl
theorem c_Md_logs_1 : c_Md_logs[1]? = some (1, 3, .getfield 96, 8, 16, 0, 0, 773, []) := Eq.trans rfl rfl
theorem c_Md_logs_2 : c_Md_logs[2]? = some (4, 3, .ifCond .eq 53, 37, 0, 0, 0, 0, []) := Eq.trans rfl rfl
theorem c_Md_logs_3 : c_Md_logs[3]? = some (7, 1, .aload_n 0, 0, 0, 0, 0, 0, []) := Eq.trans rfl rfl
theorem c_Md_logs_4 : c_Md_logs[4]? = some (8, 3, .getfield 50, 8, 18, 0, 0, 775, []) := Eq.trans rfl rfl
theorem c_Md_logs_5 : c_Md_logs[5]? = some (11, 1, .iconst 3, 0, 0, 0, 0, 0, []) := Eq.trans rfl rfl
theorem c_Md_logs_6 : c_Md_logs[6]? = some (12, 1, .aload_n 0, 0, 0, 0, 0, 0, []) := Eq.trans rfl rfl
theorem c_Md_logs_7 : c_Md_logs[7]? = some (13, 3, .getfield 117, 8, 17, 0, 0, 774, []) := Eq.trans rfl rfl
theorem c_Md_logs_8 : c_Md_logs[8]? = some (16, 1, .imul, 0, 0, 0, 0, 0, []) := Eq.trans rfl rfl
theorem c_Md_logs_9 : c_Md_logs[9]? = some (17, 1, .iload_n 1, 1, 0, 0, 0, 0, []) := Eq.trans rfl rfl
theorem c_Md_logs_10 : c_Md_logs[10]? = some (18, 1, .iastore, 0, 0, 0, 0, 0, []) := Eq.trans rfl rfl
theorem c_Md_logs_11 : c_Md_logs[11]? = some (19, 1, .aload_n 0, 0, 0, 0, 0, 0, []) := Eq.trans rfl rfl
theorem c_Md_logs_12 : c_Md_logs[12]? = some (20, 3, .getfield 50, 8, 18, 0, 0, 775, []) := Eq.trans rfl rfl
theorem c_Md_logs_13 : c_Md_logs[13]? = some (23, 1, .iconst 3, 0, 0, 0, 0, 0, []) := Eq.trans rfl rfl
theorem c_Md_logs_14 : c_Md_logs[14]? = some (24, 1, .aload_n 0, 0, 0, 0, 0, 0, []) := Eq.trans rfl rfl
theorem c_Md_logs_15 : c_Md_logs[15]? = some (25, 3, .getfield 117, 8, 17, 0, 0, 774, []) := Eq.trans rfl rfl
theorem c_Md_logs_16 : c_Md_logs[16]? = some (28, 1, .imul, 0, 0, 0, 0, 0, []) := Eq.trans rfl rfl
theorem c_Md_logs_17 : c_Md_logs[17]? = some (29, 1, .iconst 1, 0, 0, 0, 0, 0, []) := Eq.trans rfl rfl
theorem c_Md_logs_18 : c_Md_logs[18]? = some (30, 1, .iadd, 0, 0, 0, 0, 0, []) := Eq.trans rfl rfl
theorem c_Md_logs_19 : c_Md_logs[19]? = some (31, 1, .iload_n 2, 2, 0, 0, 0, 0, []) := Eq.trans rfl rfl
theorem c_Md_logs_20 : c_Md_logs[20]? = some (32, 1, .iastore, 0, 0, 0, 0, 0, []) := Eq.trans rfl rfl
theorem c_Md_logs_21 : c_Md_logs[21]? = some (33, 1, .aload_n 0, 0, 0, 0, 0, 0, []) := Eq.trans rfl rfl
theorem c_Md_logs_22 : c_Md_logs[22]? = some (34, 3, .getfield 50, 8, 18, 0, 0, 775, []) := Eq.trans rfl rfl
theorem c_Md_logs_23 : c_Md_logs[23]? = some (37, 1, .iconst 3, 0, 0, 0, 0, 0, []) := Eq.trans rfl rfl
theorem c_Md_logs_24 : c_Md_logs[24]? = some (38, 1, .aload_n 0, 0, 0, 0, 0, 0, []) := Eq.trans rfl rfl
theorem c_Md_logs_25 : c_Md_logs[25]? = some (39, 3, .getfield 117, 8, 17, 0, 0, 774, []) := Eq.trans rfl rfl
theorem c_Md_logs_26 : c_Md_logs[26]? = some (42, 1, .imul, 0, 0, 0, 0, 0, []) := Eq.trans rfl rfl
theorem c_Md_logs_27 : c_Md_logs[27]? = some (43, 1, .iconst 2, 0, 0, 0, 0, 0, []) := Eq.trans rfl rfl
theorem c_Md_logs_28 : c_Md_logs[28]? = some (44, 1, .iadd, 0, 0, 0, 0, 0, []) := Eq.trans rfl rfl
theorem c_Md_logs_29 : c_Md_logs[29]? = some (45, 1, .iload_n 3, 3, 0, 0, 0, 0, []) := Eq.trans rfl rfl
theorem c_Md_logs_30 : c_Md_logs[30]? = some (46, 1, .iastore, 0, 0, 0, 0, 0, []) := Eq.trans rfl rfl
theorem c_Md_logs_31 : c_Md_logs[31]? = some (47, 1, .aload_n 0, 0, 0, 0, 0, 0, []) := Eq.trans rfl rfl
theorem c_Md_logs_32 : c_Md_logs[32]? = some (48, 1, .dup, 0, 0, 0, 0, 0, []) := Eq.trans rfl rfl
theorem c_Md_logs_33 : c_Md_logs[33]? = some (49, 3, .getfield 117, 8, 17, 0, 0, 774, []) := Eq.trans rfl rfl
theorem c_Md_logs_34 : c_Md_logs[34]? = some (52, 1, .iconst 1, 0, 0, 0, 0, 0, []) := Eq.trans rfl rfl
theorem c_Md_logs_35 : c_Md_logs[35]? = some (53, 1, .iadd, 0, 0, 0, 0, 0, []) := Eq.trans rfl rfl
theorem c_Md_logs_36 : c_Md_logs[36]? = some (54, 3, .putfield 117, 8, 17, 0, 0, 774, []) := Eq.trans rfl rfl
theorem c_Md_logs_37 : c_Md_logs[37]? = some (57, 1, .return_, 0, 0, 0, 0, 0, []) := Eq.trans rfl rfl
theorem mt_Md_begins : am_MT[131]? = some m_Md_begins := rfl
theorem c_Md_begins_0 : c_Md_begins[0]? = some (0, 1, .aload_n 0, 0, 0, 0, 0, 0, []) := Eq.trans rfl rfl
theorem c_Md_begins_1 : c_Md_begins[1]? = some (1, 3, .getfield 47, 8, 14, 0, 0, 771, []) := Eq.trans rfl rfl
theorem c_Md_begins_2 : c_Md_begins[2]? = some (4, 1, .iconst 0, 0, 0, 0, 0, 0, []) := Eq.trans rfl rfl
theorem c_Md_begins_3 : c_Md_begins[3]? = some (5, 1, .iload_n 2, 2, 0, 0, 0, 0, []) := Eq.trans rfl rfl
theorem c_Md_begins_4 : c_Md_begins[4]? = some (6, 1, .iadd, 0, 0, 0, 0, 0, []) := Eq.trans rfl rfl
theorem c_Md_begins_5 : c_Md_begins[5]? = some (7, 1, .iconst 1, 0, 0, 0, 0, 0, []) := Eq.trans rfl rfl
theorem c_Md_begins_6 : c_Md_begins[6]? = some (8, 1, .iastore, 0, 0, 0, 0, 0, []) := Eq.trans rfl rfl
theorem c_Md_begins_7 : c_Md_begins[7]? = some (9, 1, .aload_n 0, 0, 0, 0, 0, 0, []) := Eq.trans rfl rfl
theorem c_Md_begins_8 : c_Md_begins[8]? = some (10, 3, .getfield 47, 8, 14, 0, 0, 771, []) := Eq.trans rfl rfl
theorem c_Md_begins_9 : c_Md_begins[9]? = some (13, 2, .bipush 6, 0, 0, 0, 0, 0, []) := Eq.trans rfl rfl
theorem c_Md_begins_10 : c_Md_begins[10]? = some (15, 1, .iload_n 2, 2, 0, 0, 0, 0, []) := Eq.trans rfl rfl
theorem c_Md_begins_11 : c_Md_begins[11]? = some (16, 1, .iadd, 0, 0, 0, 0, 0, []) := Eq.trans rfl rfl
theorem c_Md_begins_12 : c_Md_begins[12]? = some (17, 1, .iload_n 1, 1, 0, 0, 0, 0, []) := Eq.trans rfl rfl
theorem c_Md_begins_13 : c_Md_begins[13]? = some (18, 1, .iastore, 0, 0, 0, 0, 0, []) := Eq.trans rfl rfl
theorem c_Md_begins_14 : c_Md_begins[14]? = some (19, 1, .aload_n 0, 0, 0, 0, 0, 0, []) := Eq.trans rfl rfl
theorem c_Md_begins_15 : c_Md_begins[15]? = some (20, 3, .getfield 47, 8, 14, 0, 0, 771, []) := Eq.trans rfl rfl
theorem c_Md_begins_16 : c_Md_begins[16]? = some (23, 2, .bipush 48, 0, 0, 0, 0, 0, []) := Eq.trans rfl rfl
theorem c_Md_begins_17 : c_Md_begins[17]? = some (25, 2, .bipush 6, 0, 0, 0, 0, 0, []) := Eq.trans rfl rfl
theorem c_Md_begins_18 : c_Md_begins[18]? = some (27, 1, .iload_n 1, 1, 0, 0, 0, 0, []) := Eq.trans rfl rfl
theorem c_Md_begins_19 : c_Md_begins[19]? = some (28, 1, .imul, 0, 0, 0, 0, 0, []) := Eq.trans rfl rfl
theorem c_Md_begins_20 : c_Md_begins[20]? = some (29, 1, .iadd, 0, 0, 0, 0, 0, []) := Eq.trans rfl rfl
theorem c_Md_begins_21 : c_Md_begins[21]? = some (30, 1, .aload_n 0, 0, 0, 0, 0, 0, []) := Eq.trans rfl rfl
theorem c_Md_begins_22 : c_Md_begins[22]? = some (31, 3, .getfield 47, 8, 14, 0, 0, 771, []) := Eq.trans rfl rfl
theorem c_Md_begins_23 : c_Md_begins[23]? = some (34, 2, .bipush 45, 0, 0, 0, 0, 0, []) := Eq.trans rfl rfl
theorem c_Md_begins_24 : c_Md_begins[24]? = some (36, 1, .iload_n 1, 1, 0, 0, 0, 0, []) := Eq.trans rfl rfl
theorem c_Md_begins_25 : c_Md_begins[25]? = some (37, 1, .iadd, 0, 0, 0, 0, 0, []) := Eq.trans rfl rfl
theorem c_Md_begins_26 : c_Md_begins[26]? = some (38, 1, .iaload, 0, 0, 0, 0, 0, []) := Eq.trans rfl rfl
theorem c_Md_begins_27 : c_Md_begins[27]? = some (39, 1, .iadd, 0, 0, 0, 0, 0, []) := Eq.trans rfl rfl
theorem c_Md_begins_28 : c_Md_begins[28]? = some (40, 1, .iload_n 2, 2, 0, 0, 0, 0, []) := Eq.trans rfl rfl
theorem c_Md_begins_29 : c_Md_begins[29]? = some (41, 1, .iastore, 0, 0, 0, 0, 0, []) := Eq.trans rfl rfl
theorem c_Md_begins_30 : c_Md_begins[30]? = some (42, 1, .aload_n 0, 0, 0, 0, 0, 0, []) := Eq.trans rfl rfl
theorem c_Md_begins_31 : c_Md_begins[31]? = some (43, 3, .getfield 47, 8, 14, 0, 0, 771, []) := Eq.trans rfl rfl
theorem c_Md_begins_32 : c_Md_begins[32]? = some (46, 2, .bipush 45, 0, 0, 0, 0, 0, []) := Eq.trans rfl rfl
theorem c_Md_begins_33 : c_Md_begins[33]? = some (48, 1, .iload_n 1, 1, 0, 0, 0, 0, []) := Eq.trans rfl rfl
theorem c_Md_begins_34 : c_Md_begins[34]? = some (49, 1, .iadd, 0, 0, 0, 0, 0, []) := Eq.trans rfl rfl
theorem c_Md_begins_35 : c_Md_begins[35]? = some (50, 1, .dup2, 0, 0, 0, 0, 0, []) := Eq.trans rfl rfl
theorem c_Md_begins_36 : c_Md_begins[36]? = some (51, 1, .iaload, 0, 0, 0, 0, 0, []) := Eq.trans rfl rfl
theorem c_Md_begins_37 : c_Md_begins[37]? = some (52, 1, .iconst 1, 0, 0, 0, 0, 0, []) := Eq.trans rfl rfl
theorem c_Md_begins_38 : c_Md_begins[38]? = some (53, 1, .iadd, 0, 0, 0, 0, 0, []) := Eq.trans rfl rfl
theorem c_Md_begins_39 : c_Md_begins[39]? = some (54, 1, .iastore, 0, 0, 0, 0, 0, []) := Eq.trans rfl rfl
theorem c_Md_begins_40 : c_Md_begins[40]? = some (55, 1, .aload_n 0, 0, 0, 0, 0, 0, []) := Eq.trans rfl rfl
theorem c_Md_begins_41 : c_Md_begins[41]? = some (56, 1, .iload_n 1, 1, 0, 0, 0, 0, []) := Eq.trans rfl rfl
theorem c_Md_begins_42 : c_Md_begins[42]? = some (57, 1, .iconst 0, 0, 0, 0, 0, 0, []) := Eq.trans rfl rfl
theorem c_Md_begins_43 : c_Md_begins[43]? = some (58, 1, .iload_n 2, 2, 0, 0, 0, 0, []) := Eq.trans rfl rfl
theorem c_Md_begins_44 : c_Md_begins[44]? = some (59, 3, .invokevirtual 167, 132, 4, 8, 0, 968, []) := Eq.trans rfl rfl
theorem c_Md_begins_45 : c_Md_begins[45]? = some (62, 1, .return_, 0, 0, 0, 0, 0, []) := Eq.trans rfl rfl
theorem mt_Md_ends : am_MT[135]? = some m_Md_ends := rfl
theorem c_Md_ends_0 : c_Md_ends[0]? = some (0, 1, .aload_n 0, 0, 0, 0, 0, 0, []) := Eq.trans rfl rfl
theorem c_Md_ends_1 : c_Md_ends[1]? = some (1, 3, .getfield 47, 8, 14, 0, 0, 771, []) := Eq.trans rfl rfl
theorem c_Md_ends_2 : c_Md_ends[2]? = some (4, 2, .bipush 36, 0, 0, 0, 0, 0, []) := Eq.trans rfl rfl
theorem c_Md_ends_3 : c_Md_ends[3]? = some (6, 1, .iload_n 1, 1, 0, 0, 0, 0, []) := Eq.trans rfl rfl
theorem c_Md_ends_4 : c_Md_ends[4]? = some (7, 1, .iadd, 0, 0, 0, 0, 0, []) := Eq.trans rfl rfl
theorem c_Md_ends_5 : c_Md_ends[5]? = some (8, 1, .iconst 2, 0, 0, 0, 0, 0, []) := Eq.trans rfl rfl
theorem c_Md_ends_6 : c_Md_ends[6]? = some (9, 1, .iload_n 2, 2, 0, 0, 0, 0, []) := Eq.trans rfl rfl
theorem c_Md_ends_7 : c_Md_ends[7]? = some (10, 1, .iadd, 0, 0, 0, 0, 0, []) := Eq.trans rfl rfl
theorem c_Md_ends_8 : c_Md_ends[8]? = some (11, 1, .iastore, 0, 0, 0, 0, 0, []) := Eq.trans rfl rfl
theorem c_Md_ends_9 : c_Md_ends[9]? = some (12, 1, .aload_n 0, 0, 0, 0, 0, 0, []) := Eq.trans rfl rfl
theorem c_Md_ends_10 : c_Md_ends[10]? = some (13, 3, .getfield 47, 8, 14, 0, 0, 771, []) := Eq.trans rfl rfl
theorem c_Md_ends_11 : c_Md_ends[11]? = some (16, 2, .bipush 39, 0, 0, 0, 0, 0, []) := Eq.trans rfl rfl
theorem c_Md_ends_12 : c_Md_ends[12]? = some (18, 1, .iload_n 1, 1, 0, 0, 0, 0, []) := Eq.trans rfl rfl
theorem c_Md_ends_13 : c_Md_ends[13]? = some (19, 1, .iadd, 0, 0, 0, 0, 0, []) := Eq.trans rfl rfl
theorem c_Md_ends_14 : c_Md_ends[14]? = some (20, 1, .iconst 0, 0, 0, 0, 0, 0, []) := Eq.trans rfl rfl
theorem c_Md_ends_15 : c_Md_ends[15]? = some (21, 1, .iastore, 0, 0, 0, 0, 0, []) := Eq.trans rfl rfl
theorem c_Md_ends_16 : c_Md_ends[16]? = some (22, 1, .aload_n 0, 0, 0, 0, 0, 0, []) := Eq.trans rfl rfl
theorem c_Md_ends_17 : c_Md_ends[17]? = some (23, 3, .getfield 47, 8, 14, 0, 0, 771, []) := Eq.trans rfl rfl
theorem c_Md_ends_18 : c_Md_ends[18]? = some (26, 2, .bipush 42, 0, 0, 0, 0, 0, []) := Eq.trans rfl rfl
theorem c_Md_ends_19 : c_Md_ends[19]? = some (28, 1, .iload_n 1, 1, 0, 0, 0, 0, []) := Eq.trans rfl rfl
theorem c_Md_ends_20 : c_Md_ends[20]? = some (29, 1, .iadd, 0, 0, 0, 0, 0, []) := Eq.trans rfl rfl
theorem c_Md_ends_21 : c_Md_ends[21]? = some (30, 1, .iconst 0, 0, 0, 0, 0, 0, []) := Eq.trans rfl rfl
theorem c_Md_ends_22 : c_Md_ends[22]? = some (31, 1, .iastore, 0, 0, 0, 0, 0, []) := Eq.trans rfl rfl
theorem c_Md_ends_23 : c_Md_ends[23]? = some (32, 1, .aload_n 0, 0, 0, 0, 0, 0, []) := Eq.trans rfl rfl
theorem c_Md_ends_24 : c_Md_ends[24]? = some (33, 1, .iload_n 1, 1, 0, 0, 0, 0, []) := Eq.trans rfl rfl
theorem c_Md_ends_25 : c_Md_ends[25]? = some (34, 1, .iconst 5, 0, 0, 0, 0, 0, []) := Eq.trans rfl rfl
theorem c_Md_ends_26 : c_Md_ends[26]? = some (35, 1, .iload_n 2, 2, 0, 0, 0, 0, []) := Eq.trans rfl rfl
theorem c_Md_ends_27 : c_Md_ends[27]? = some (36, 3, .invokevirtual 167, 132, 4, 8, 0, 968, []) := Eq.trans rfl rfl
theorem c_Md_ends_28 : c_Md_ends[28]? = some (39, 1, .return_, 0, 0, 0, 0, 0, []) := Eq.trans rfl rfl
/-- THE LOG gets a row, where it is kept -/
def sp_lI (I : Nat → Int) : Nat → Int := if I 3 = 0 then I else va_up I 4 (I 4 + 1)
def sp_lF (I : Nat → Int) (F : Nat → Int → Int) (th e n : Int) : Nat → Int → Int := if I 3 = 0 then F else va_up F 14 (vI (vI (vI (F 14) (3 * I 4) th) (3 * I 4 + 1) e) (3 * I 4 + 2) n)
theorem ct_logs (d : Nat) (hd : 1 ≤ d) (h : am_H) (o : Nat) (I : Nat → Int) (F : Nat → Int → Int) (H : md_at h o I F) (h3 : I 3 = 0 ∨ I 3 = 1 ∧ 0 ≤ I 4 ∧ I 4 < 300) (th e n : Int) : am_Ct am_df am_MT d 132 [.ref o, .int (iI th), .int (iI e), .int (iI n)] h (fun r h' => r = none ∧ md_to h o (sp_lI I) (sp_lF I F th e n) h') := by
  have H' := H
  obtain ⟨h0, hO, hA⟩ := H'
  obtain ⟨d, rfl⟩ : ∃ e, d = e + 1 := ⟨d - 1, by omega⟩
  refine am_ct_of2 mt_Md_logs (Nat.le_of_ble_eq_true rfl) ?_
  simp only [ar_nil, ar_int, ar_ref, ar_long, Nat.reduceAdd]
  by_cases e1 : I 3 = 0
  · refine am_go_of 60 [] _ c_Md_logs_0 ?_
    simp (maxSteps := 2000000) (disch := omega) only [c_Md_logs_0, c_Md_logs_1, c_Md_logs_2, c_Md_logs_3, c_Md_logs_4, c_Md_logs_5, c_Md_logs_6, c_Md_logs_7, c_Md_logs_8, c_Md_logs_9, c_Md_logs_10, c_Md_logs_11, c_Md_logs_12, c_Md_logs_13, c_Md_logs_14, c_Md_logs_15, c_Md_logs_16, c_Md_logs_17, c_Md_logs_18, c_Md_logs_19, c_Md_logs_20, c_Md_logs_21, c_Md_logs_22, c_Md_logs_23, c_Md_logs_24, c_Md_logs_25, c_Md_logs_26, c_Md_logs_27, c_Md_logs_28, c_Md_logs_29, c_Md_logs_30, c_Md_logs_31, c_Md_logs_32, c_Md_logs_33, c_Md_logs_34, c_Md_logs_35, c_Md_logs_36, c_Md_logs_37, sx_aload_n, sx_dup_i, sx_dup_r, sx_getfield, sx_iadd, sx_iastore, sx_iconst, sx_ifCond_eq, sx_iload_n, sx_imul, sx_putfield, sx_return, am_W_s, am_W_0, am_mm_some, List.mem_cons, or_false, false_or, or_self, or_true, true_or, reduceIte, if_false, if_true, am_o_some, am_o_none, am_o_bad, am_o_good, am_ldi_hit, am_ldi_miss, am_lda_hit, am_lda_miss, am_ldl_hit, am_ldl_miss, am_inc_eq, am_inc_hit, am_inc_miss, am_ob_hit, am_fd_0, am_fd_s, am_ai_hit, am_ab_3, am_al_hit, am_aq_4, am_al0_hit, am_put_1, am_put_2, am_put_put, am_up_hit, am_up_miss, am_s1_eq, am_s2_eq, am_fl_nil, am_fl_hit, am_fl_int, am_fl_ref, am_fl_long, am_fl_longx, am_fl2_nil, am_fl2_hit, am_fl2_hit1, am_fl2_int, am_fl2_ref, am_fl2_long, List.not_mem_nil, not_false_eq_true, ne_eq, Nat.reduceAdd, Nat.reduceEqDiff, Nat.zero_add, Nat.add_left_cancel_iff, List.set_cons_zero, List.set_cons_succ, List.length_cons, List.length_nil, Nat.reduceLT, am_ft_i, am_ft_r, am_ft_z, and_true, true_and, Option.toList_some, Option.toList_none, List.cons_append, List.nil_append, List.drop_succ_cons, List.drop_zero, iI_c, iI_b, iI_s, iI_n, iI_add, iI_sub, iI_mul, iI_neg, iI_nle, iI_ix, iI_eq0, iI_eq1, iI_lt0, iI_0lt, iI_le0, iI_0le, iI_eq, iI_lt, iI_le, iI_upd, iI_updZ, hO, hA, e1, md_fs_len, md_f0, md_f1, md_f2, md_f3, md_f4, md_f5, md_f6, md_f7, md_f8, md_f9, md_f10, md_f11, md_f12, md_f13, md_f14, md_f15, md_f16, md_f17, md_f18, md_f19, md_f20, md_f21, md_f22, md_f23, md_f24, md_f25, md_f26, md_f27, md_f28, md_f29, md_f30, md_f31, md_f32, md_f33, md_f34, md_f35, md_s0, md_s1, md_s15, md_s16, md_s17, md_s23, md_s24, md_s31, md_t1, md_t2, md_t3, md_t4, md_t5, md_t6, md_t7, md_t8, md_t9, md_t10, md_t11, md_t12, md_t13, md_t14, md_t15, md_t16, md_t17, md_t18, md_t19, md_t20, md_t21, md_t22, md_t23, md_t24, md_t25, md_t26, md_t27, md_t28, md_l1, md_l2, md_l3, md_l4, md_l5, md_l6, md_l7, md_l8, md_l9, md_l10, md_l11, md_l12, md_l13, md_l14, md_l15, md_l16, md_l17, md_l18, md_l19, md_l20, md_l21, md_l22, md_l23, md_l24, md_l25, md_l26, md_l27, md_l28]
    unfold sp_lI sp_lF
    rw [if_pos e1, if_pos e1]
    exact H.rf
  · refine am_go_of 60 [] _ c_Md_logs_0 ?_
    simp (maxSteps := 2000000) (disch := omega) only [c_Md_logs_0, c_Md_logs_1, c_Md_logs_2, c_Md_logs_3, c_Md_logs_4, c_Md_logs_5, c_Md_logs_6, c_Md_logs_7, c_Md_logs_8, c_Md_logs_9, c_Md_logs_10, c_Md_logs_11, c_Md_logs_12, c_Md_logs_13, c_Md_logs_14, c_Md_logs_15, c_Md_logs_16, c_Md_logs_17, c_Md_logs_18, c_Md_logs_19, c_Md_logs_20, c_Md_logs_21, c_Md_logs_22, c_Md_logs_23, c_Md_logs_24, c_Md_logs_25, c_Md_logs_26, c_Md_logs_27, c_Md_logs_28, c_Md_logs_29, c_Md_logs_30, c_Md_logs_31, c_Md_logs_32, c_Md_logs_33, c_Md_logs_34, c_Md_logs_35, c_Md_logs_36, c_Md_logs_37, sx_aload_n, sx_dup_i, sx_dup_r, sx_getfield, sx_iadd, sx_iastore, sx_iconst, sx_ifCond_eq, sx_iload_n, sx_imul, sx_putfield, sx_return, am_W_s, am_W_0, am_mm_some, List.mem_cons, or_false, false_or, or_self, or_true, true_or, reduceIte, if_false, if_true, am_o_some, am_o_none, am_o_bad, am_o_good, am_ldi_hit, am_ldi_miss, am_lda_hit, am_lda_miss, am_ldl_hit, am_ldl_miss, am_inc_eq, am_inc_hit, am_inc_miss, am_ob_hit, am_fd_0, am_fd_s, am_ai_hit, am_ab_3, am_al_hit, am_aq_4, am_al0_hit, am_put_1, am_put_2, am_put_put, am_up_hit, am_up_miss, am_s1_eq, am_s2_eq, am_fl_nil, am_fl_hit, am_fl_int, am_fl_ref, am_fl_long, am_fl_longx, am_fl2_nil, am_fl2_hit, am_fl2_hit1, am_fl2_int, am_fl2_ref, am_fl2_long, List.not_mem_nil, not_false_eq_true, ne_eq, Nat.reduceAdd, Nat.reduceEqDiff, Nat.zero_add, Nat.add_left_cancel_iff, List.set_cons_zero, List.set_cons_succ, List.length_cons, List.length_nil, Nat.reduceLT, am_ft_i, am_ft_r, am_ft_z, and_true, true_and, Option.toList_some, Option.toList_none, List.cons_append, List.nil_append, List.drop_succ_cons, List.drop_zero, iI_c, iI_b, iI_s, iI_n, iI_add, iI_sub, iI_mul, iI_neg, iI_nle, iI_ix, iI_eq0, iI_eq1, iI_lt0, iI_0lt, iI_le0, iI_0le, iI_eq, iI_lt, iI_le, iI_upd, iI_updZ, hO, hA, e1, md_fs_len, md_f0, md_f1, md_f2, md_f3, md_f4, md_f5, md_f6, md_f7, md_f8, md_f9, md_f10, md_f11, md_f12, md_f13, md_f14, md_f15, md_f16, md_f17, md_f18, md_f19, md_f20, md_f21, md_f22, md_f23, md_f24, md_f25, md_f26, md_f27, md_f28, md_f29, md_f30, md_f31, md_f32, md_f33, md_f34, md_f35, md_s0, md_s1, md_s15, md_s16, md_s17, md_s23, md_s24, md_s31, md_t1, md_t2, md_t3, md_t4, md_t5, md_t6, md_t7, md_t8, md_t9, md_t10, md_t11, md_t12, md_t13, md_t14, md_t15, md_t16, md_t17, md_t18, md_t19, md_t20, md_t21, md_t22, md_t23, md_t24, md_t25, md_t26, md_t27, md_t28, md_l1, md_l2, md_l3, md_l4, md_l5, md_l6, md_l7, md_l8, md_l9, md_l10, md_l11, md_l12, md_l13, md_l14, md_l15, md_l16, md_l17, md_l18, md_l19, md_l20, md_l21, md_l22, md_l23, md_l24, md_l25, md_l26, md_l27, md_l28]
    repeat (refine And.intro (by omega) ?_)
    unfold sp_lI sp_lF
    rw [if_neg e1, if_neg e1]
    exact (H.rf.row (k := 14) (t := 0) (n := 900) (g := vI (vI (vI (F 14) (3 * I 4) th) (3 * I 4 + 1) e) (3 * I 4 + 2) n) ⟨by decide, by decide⟩ rfl rfl).num (I1 := va_up I 4 (I 4 + 1))
/-- a TYPE begins in a THREAD -/
def sp_beginS (s : Int → Int) (th t : Int) : Int → Int := vI (vI (vI (vI s t 1) (6 + t) th) (48 + 6 * th + s (45 + th)) t) (45 + th) (s (45 + th) + 1)
theorem ct_begins (d : Nat) (hd : 2 ≤ d) (h : am_H) (o : Nat) (I : Nat → Int) (F : Nat → Int → Int) (H : md_at h o I F) (hs : rs_rg (F 13)) (h3 : I 3 = 0 ∨ I 3 = 1 ∧ 0 ≤ I 4 ∧ I 4 < 300) (th t : Int) (hh : 0 ≤ th ∧ th < 3) (ht : 0 ≤ t ∧ t < 6) (hm : F 13 (45 + th) < 6) : am_Ct am_df am_MT d 131 [.ref o, .int (iI th), .int (iI t)] h (fun r h' => r = none ∧ md_to h o (sp_lI I) (sp_lF I (va_up F 13 (sp_beginS (F 13) th t)) th 0 t) h') := by
  have H' := H
  obtain ⟨h0, hO, hA⟩ := H'
  have e1 := hs.2.1 th hh
  obtain ⟨d, rfl⟩ : ∃ e, d = e + 1 := ⟨d - 1, by omega⟩
  refine am_ct_of2 mt_Md_begins (Nat.le_of_ble_eq_true rfl) ?_
  simp only [ar_nil, ar_int, ar_ref, ar_long, Nat.reduceAdd]
  refine am_go_of 60 [44] _ c_Md_begins_0 ?_
  simp (maxSteps := 2000000) (disch := omega) only [c_Md_begins_0, c_Md_begins_1, c_Md_begins_2, c_Md_begins_3, c_Md_begins_4, c_Md_begins_5, c_Md_begins_6, c_Md_begins_7, c_Md_begins_8, c_Md_begins_9, c_Md_begins_10, c_Md_begins_11, c_Md_begins_12, c_Md_begins_13, c_Md_begins_14, c_Md_begins_15, c_Md_begins_16, c_Md_begins_17, c_Md_begins_18, c_Md_begins_19, c_Md_begins_20, c_Md_begins_21, c_Md_begins_22, c_Md_begins_23, c_Md_begins_24, c_Md_begins_25, c_Md_begins_26, c_Md_begins_27, c_Md_begins_28, c_Md_begins_29, c_Md_begins_30, c_Md_begins_31, c_Md_begins_32, c_Md_begins_33, c_Md_begins_34, c_Md_begins_35, c_Md_begins_36, c_Md_begins_37, c_Md_begins_38, c_Md_begins_39, c_Md_begins_40, c_Md_begins_41, c_Md_begins_42, c_Md_begins_43, c_Md_begins_44, c_Md_begins_45, sx_aload_n, sx_bipush, sx_dup2_ir, sx_getfield, sx_iadd, sx_iaload, sx_iastore, sx_iconst, sx_iload_n, sx_imul, sx_return, am_W_s, am_W_0, am_mm_some, List.mem_cons, or_false, false_or, or_self, or_true, true_or, reduceIte, if_false, if_true, am_o_some, am_o_none, am_o_bad, am_o_good, am_ldi_hit, am_ldi_miss, am_lda_hit, am_lda_miss, am_ldl_hit, am_ldl_miss, am_inc_eq, am_inc_hit, am_inc_miss, am_ob_hit, am_fd_0, am_fd_s, am_ai_hit, am_ab_3, am_al_hit, am_aq_4, am_al0_hit, am_put_1, am_put_2, am_put_put, am_up_hit, am_up_miss, am_s1_eq, am_s2_eq, am_fl_nil, am_fl_hit, am_fl_int, am_fl_ref, am_fl_long, am_fl_longx, am_fl2_nil, am_fl2_hit, am_fl2_hit1, am_fl2_int, am_fl2_ref, am_fl2_long, List.not_mem_nil, not_false_eq_true, ne_eq, Nat.reduceAdd, Nat.reduceEqDiff, Nat.zero_add, Nat.add_left_cancel_iff, List.set_cons_zero, List.set_cons_succ, List.length_cons, List.length_nil, Nat.reduceLT, am_ft_i, am_ft_r, am_ft_z, and_true, true_and, Option.toList_some, Option.toList_none, List.cons_append, List.nil_append, List.drop_succ_cons, List.drop_zero, iI_c, iI_b, iI_s, iI_n, iI_add, iI_sub, iI_mul, iI_neg, iI_nle, iI_ix, iI_eq0, iI_eq1, iI_lt0, iI_0lt, iI_le0, iI_0le, iI_eq, iI_lt, iI_le, iI_upd, iI_updZ, hO, hA, Int.zero_add, vI_hit, vI_miss, md_fs_len, md_f0, md_f1, md_f2, md_f3, md_f4, md_f5, md_f6, md_f7, md_f8, md_f9, md_f10, md_f11, md_f12, md_f13, md_f14, md_f15, md_f16, md_f17, md_f18, md_f19, md_f20, md_f21, md_f22, md_f23, md_f24, md_f25, md_f26, md_f27, md_f28, md_f29, md_f30, md_f31, md_f32, md_f33, md_f34, md_f35, md_s0, md_s1, md_s15, md_s16, md_s17, md_s23, md_s24, md_s31, md_t1, md_t2, md_t3, md_t4, md_t5, md_t6, md_t7, md_t8, md_t9, md_t10, md_t11, md_t12, md_t13, md_t14, md_t15, md_t16, md_t17, md_t18, md_t19, md_t20, md_t21, md_t22, md_t23, md_t24, md_t25, md_t26, md_t27, md_t28, md_l1, md_l2, md_l3, md_l4, md_l5, md_l6, md_l7, md_l8, md_l9, md_l10, md_l11, md_l12, md_l13, md_l14, md_l15, md_l16, md_l17, md_l18, md_l19, md_l20, md_l21, md_l22, md_l23, md_l24, md_l25, md_l26, md_l27, md_l28]
  repeat (refine And.intro (by omega) ?_)
  have w := H.rf.row (k := 13) (t := 0) (n := 66) (g := vI (vI (vI (vI (F 13) t 1) (6 + t) th) (48 + 6 * th + F 13 (45 + th)) t) (45 + th) (F 13 (45 + th) + 1)) ⟨by decide, by decide⟩ rfl rfl
  have hO2 := w.1.2.1
  refine am_go_call c_Md_begins_44 (by decide) (by decide) (by simp [am_can, am_kd, Value.category, hO2]) ?_
  refine (ct_logs d (by omega) _ o I _ w.1 h3 th 0 t).mono (fun r h' hr9 => ?_)
  obtain ⟨rfl, hw⟩ := hr9
  refine am_go_of 3 [44] _ c_Md_begins_45 ?_
  simp (maxSteps := 2000000) (disch := omega) only [c_Md_begins_0, c_Md_begins_1, c_Md_begins_2, c_Md_begins_3, c_Md_begins_4, c_Md_begins_5, c_Md_begins_6, c_Md_begins_7, c_Md_begins_8, c_Md_begins_9, c_Md_begins_10, c_Md_begins_11, c_Md_begins_12, c_Md_begins_13, c_Md_begins_14, c_Md_begins_15, c_Md_begins_16, c_Md_begins_17, c_Md_begins_18, c_Md_begins_19, c_Md_begins_20, c_Md_begins_21, c_Md_begins_22, c_Md_begins_23, c_Md_begins_24, c_Md_begins_25, c_Md_begins_26, c_Md_begins_27, c_Md_begins_28, c_Md_begins_29, c_Md_begins_30, c_Md_begins_31, c_Md_begins_32, c_Md_begins_33, c_Md_begins_34, c_Md_begins_35, c_Md_begins_36, c_Md_begins_37, c_Md_begins_38, c_Md_begins_39, c_Md_begins_40, c_Md_begins_41, c_Md_begins_42, c_Md_begins_43, c_Md_begins_44, c_Md_begins_45, sx_aload_n, sx_bipush, sx_dup2_ir, sx_getfield, sx_iadd, sx_iaload, sx_iastore, sx_iconst, sx_iload_n, sx_imul, sx_return, am_W_s, am_W_0, am_mm_some, List.mem_cons, or_false, false_or, or_self, or_true, true_or, reduceIte, if_false, if_true, am_o_some, am_o_none, am_o_bad, am_o_good, am_ldi_hit, am_ldi_miss, am_lda_hit, am_lda_miss, am_ldl_hit, am_ldl_miss, am_inc_eq, am_inc_hit, am_inc_miss, am_ob_hit, am_fd_0, am_fd_s, am_ai_hit, am_ab_3, am_al_hit, am_aq_4, am_al0_hit, am_put_1, am_put_2, am_put_put, am_up_hit, am_up_miss, am_s1_eq, am_s2_eq, am_fl_nil, am_fl_hit, am_fl_int, am_fl_ref, am_fl_long, am_fl_longx, am_fl2_nil, am_fl2_hit, am_fl2_hit1, am_fl2_int, am_fl2_ref, am_fl2_long, List.not_mem_nil, not_false_eq_true, ne_eq, Nat.reduceAdd, Nat.reduceEqDiff, Nat.zero_add, Nat.add_left_cancel_iff, List.set_cons_zero, List.set_cons_succ, List.length_cons, List.length_nil, Nat.reduceLT, am_ft_i, am_ft_r, am_ft_z, and_true, true_and, Option.toList_some, Option.toList_none, List.cons_append, List.nil_append, List.drop_succ_cons, List.drop_zero, iI_c, iI_b, iI_s, iI_n, iI_add, iI_sub, iI_mul, iI_neg, iI_nle, iI_ix, iI_eq0, iI_eq1, iI_lt0, iI_0lt, iI_le0, iI_0le, iI_eq, iI_lt, iI_le, iI_upd, iI_updZ, md_fs_len, md_f0, md_f1, md_f2, md_f3, md_f4, md_f5, md_f6, md_f7, md_f8, md_f9, md_f10, md_f11, md_f12, md_f13, md_f14, md_f15, md_f16, md_f17, md_f18, md_f19, md_f20, md_f21, md_f22, md_f23, md_f24, md_f25, md_f26, md_f27, md_f28, md_f29, md_f30, md_f31, md_f32, md_f33, md_f34, md_f35, md_s0, md_s1, md_s15, md_s16, md_s17, md_s23, md_s24, md_s31, md_t1, md_t2, md_t3, md_t4, md_t5, md_t6, md_t7, md_t8, md_t9, md_t10, md_t11, md_t12, md_t13, md_t14, md_t15, md_t16, md_t17, md_t18, md_t19, md_t20, md_t21, md_t22, md_t23, md_t24, md_t25, md_t26, md_t27, md_t28, md_l1, md_l2, md_l3, md_l4, md_l5, md_l6, md_l7, md_l8, md_l9, md_l10, md_l11, md_l12, md_l13, md_l14, md_l15, md_l16, md_l17, md_l18, md_l19, md_l20, md_l21, md_l22, md_l23, md_l24, md_l25, md_l26, md_l27, md_l28]
  exact w.tr hw
