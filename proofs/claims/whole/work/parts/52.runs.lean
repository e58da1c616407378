theorem mt_Log_add : am_MT[50]? = some m_Log_add := rfl
theorem c_Log_add_0 : c_Log_add[0]? = some (0, 1, .aload_n 0, 0, 0, 0, 0, 0, []) := Eq.trans rfl rfl
theorem c_Log_add_1 : c_Log_add[1]? = some (1, 3, .getfield 9, 4, 0, 0, 0, 191, []) := Eq.trans rfl rfl
theorem c_Log_add_2 : c_Log_add[2]? = some (4, 2, .bipush 60, 0, 0, 0, 0, 0, []) := Eq.trans rfl rfl
theorem c_Log_add_3 : c_Log_add[3]? = some (6, 3, .if_icmp .lt 4, 5, 0, 0, 0, 0, []) := Eq.trans rfl rfl
theorem c_Log_add_4 : c_Log_add[4]? = some (9, 1, .return_, 0, 0, 0, 0, 0, []) := Eq.trans rfl rfl
theorem c_Log_add_5 : c_Log_add[5]? = some (10, 1, .aload_n 0, 0, 0, 0, 0, 0, []) := Eq.trans rfl rfl
theorem c_Log_add_6 : c_Log_add[6]? = some (11, 3, .getfield 9, 4, 0, 0, 0, 191, []) := Eq.trans rfl rfl
theorem c_Log_add_7 : c_Log_add[7]? = some (14, 1, .iconst 3, 0, 0, 0, 0, 0, []) := Eq.trans rfl rfl
theorem c_Log_add_8 : c_Log_add[8]? = some (15, 1, .imul, 0, 0, 0, 0, 0, []) := Eq.trans rfl rfl
theorem c_Log_add_9 : c_Log_add[9]? = some (16, 2, .istore 4, 4, 0, 0, 0, 0, []) := Eq.trans rfl rfl
theorem c_Log_add_10 : c_Log_add[10]? = some (18, 1, .aload_n 0, 0, 0, 0, 0, 0, []) := Eq.trans rfl rfl
theorem c_Log_add_11 : c_Log_add[11]? = some (19, 3, .getfield 15, 4, 1, 0, 0, 192, []) := Eq.trans rfl rfl
theorem c_Log_add_12 : c_Log_add[12]? = some (22, 2, .iload 4, 4, 0, 0, 0, 0, []) := Eq.trans rfl rfl
theorem c_Log_add_13 : c_Log_add[13]? = some (24, 1, .iload_n 1, 1, 0, 0, 0, 0, []) := Eq.trans rfl rfl
theorem c_Log_add_14 : c_Log_add[14]? = some (25, 1, .iastore, 0, 0, 0, 0, 0, []) := Eq.trans rfl rfl
theorem c_Log_add_15 : c_Log_add[15]? = some (26, 1, .aload_n 0, 0, 0, 0, 0, 0, []) := Eq.trans rfl rfl
theorem c_Log_add_16 : c_Log_add[16]? = some (27, 3, .getfield 15, 4, 1, 0, 0, 192, []) := Eq.trans rfl rfl
theorem c_Log_add_17 : c_Log_add[17]? = some (30, 2, .iload 4, 4, 0, 0, 0, 0, []) := Eq.trans rfl rfl
theorem c_Log_add_18 : c_Log_add[18]? = some (32, 1, .iconst 1, 0, 0, 0, 0, 0, []) := Eq.trans rfl rfl
theorem c_Log_add_19 : c_Log_add[19]? = some (33, 1, .iadd, 0, 0, 0, 0, 0, []) := Eq.trans rfl rfl
theorem c_Log_add_20 : c_Log_add[20]? = some (34, 1, .iload_n 2, 2, 0, 0, 0, 0, []) := Eq.trans rfl rfl
theorem c_Log_add_21 : c_Log_add[21]? = some (35, 1, .iastore, 0, 0, 0, 0, 0, []) := Eq.trans rfl rfl
theorem c_Log_add_22 : c_Log_add[22]? = some (36, 1, .aload_n 0, 0, 0, 0, 0, 0, []) := Eq.trans rfl rfl
theorem c_Log_add_23 : c_Log_add[23]? = some (37, 3, .getfield 15, 4, 1, 0, 0, 192, []) := Eq.trans rfl rfl
theorem c_Log_add_24 : c_Log_add[24]? = some (40, 2, .iload 4, 4, 0, 0, 0, 0, []) := Eq.trans rfl rfl
theorem c_Log_add_25 : c_Log_add[25]? = some (42, 1, .iconst 2, 0, 0, 0, 0, 0, []) := Eq.trans rfl rfl
theorem c_Log_add_26 : c_Log_add[26]? = some (43, 1, .iadd, 0, 0, 0, 0, 0, []) := Eq.trans rfl rfl
theorem c_Log_add_27 : c_Log_add[27]? = some (44, 1, .iload_n 3, 3, 0, 0, 0, 0, []) := Eq.trans rfl rfl
theorem c_Log_add_28 : c_Log_add[28]? = some (45, 1, .iastore, 0, 0, 0, 0, 0, []) := Eq.trans rfl rfl
theorem c_Log_add_29 : c_Log_add[29]? = some (46, 1, .aload_n 0, 0, 0, 0, 0, 0, []) := Eq.trans rfl rfl
theorem c_Log_add_30 : c_Log_add[30]? = some (47, 1, .dup, 0, 0, 0, 0, 0, []) := Eq.trans rfl rfl
theorem c_Log_add_31 : c_Log_add[31]? = some (48, 3, .getfield 9, 4, 0, 0, 0, 191, []) := Eq.trans rfl rfl
theorem c_Log_add_32 : c_Log_add[32]? = some (51, 1, .iconst 1, 0, 0, 0, 0, 0, []) := Eq.trans rfl rfl
theorem c_Log_add_33 : c_Log_add[33]? = some (52, 1, .iadd, 0, 0, 0, 0, 0, []) := Eq.trans rfl rfl
theorem c_Log_add_34 : c_Log_add[34]? = some (53, 3, .putfield 9, 4, 0, 0, 0, 191, []) := Eq.trans rfl rfl
theorem c_Log_add_35 : c_Log_add[35]? = some (56, 1, .return_, 0, 0, 0, 0, 0, []) := Eq.trans rfl rfl
theorem mt_Run_top : am_MT[42]? = some m_Run_top := rfl
theorem c_Run_top_0 : c_Run_top[0]? = some (0, 1, .aload_n 0, 0, 0, 0, 0, 0, []) := Eq.trans rfl rfl
theorem c_Run_top_1 : c_Run_top[1]? = some (1, 3, .getfield 37, 3, 6, 0, 0, 211, []) := Eq.trans rfl rfl
theorem c_Run_top_2 : c_Run_top[2]? = some (4, 1, .iload_n 1, 1, 0, 0, 0, 0, []) := Eq.trans rfl rfl
theorem c_Run_top_3 : c_Run_top[3]? = some (5, 1, .iaload, 0, 0, 0, 0, 0, []) := Eq.trans rfl rfl
theorem c_Run_top_4 : c_Run_top[4]? = some (6, 3, .ifCond .ne 10, 9, 0, 0, 0, 0, []) := Eq.trans rfl rfl
theorem c_Run_top_5 : c_Run_top[5]? = some (9, 2, .bipush 6, 0, 0, 0, 0, 0, []) := Eq.trans rfl rfl
theorem c_Run_top_6 : c_Run_top[6]? = some (11, 1, .iload_n 1, 1, 0, 0, 0, 0, []) := Eq.trans rfl rfl
theorem c_Run_top_7 : c_Run_top[7]? = some (12, 1, .iadd, 0, 0, 0, 0, 0, []) := Eq.trans rfl rfl
theorem c_Run_top_8 : c_Run_top[8]? = some (13, 3, .goto 18, 20, 0, 0, 0, 0, []) := Eq.trans rfl rfl
theorem c_Run_top_9 : c_Run_top[9]? = some (16, 1, .aload_n 0, 0, 0, 0, 0, 0, []) := Eq.trans rfl rfl
theorem c_Run_top_10 : c_Run_top[10]? = some (17, 3, .getfield 34, 3, 5, 0, 0, 209, []) := Eq.trans rfl rfl
theorem c_Run_top_11 : c_Run_top[11]? = some (20, 1, .iload_n 1, 1, 0, 0, 0, 0, []) := Eq.trans rfl rfl
theorem c_Run_top_12 : c_Run_top[12]? = some (21, 1, .aaload, 0, 0, 0, 0, 0, []) := Eq.trans rfl rfl
theorem c_Run_top_13 : c_Run_top[13]? = some (22, 1, .aload_n 0, 0, 0, 0, 0, 0, []) := Eq.trans rfl rfl
theorem c_Run_top_14 : c_Run_top[14]? = some (23, 3, .getfield 37, 3, 6, 0, 0, 211, []) := Eq.trans rfl rfl
theorem c_Run_top_15 : c_Run_top[15]? = some (26, 1, .iload_n 1, 1, 0, 0, 0, 0, []) := Eq.trans rfl rfl
theorem c_Run_top_16 : c_Run_top[16]? = some (27, 1, .iaload, 0, 0, 0, 0, 0, []) := Eq.trans rfl rfl
theorem c_Run_top_17 : c_Run_top[17]? = some (28, 1, .iconst 1, 0, 0, 0, 0, 0, []) := Eq.trans rfl rfl
theorem c_Run_top_18 : c_Run_top[18]? = some (29, 1, .isub, 0, 0, 0, 0, 0, []) := Eq.trans rfl rfl
theorem c_Run_top_19 : c_Run_top[19]? = some (30, 1, .iaload, 0, 0, 0, 0, 0, []) := Eq.trans rfl rfl
theorem c_Run_top_20 : c_Run_top[20]? = some (31, 1, .ireturn, 0, 0, 0, 0, 0, []) := Eq.trans rfl rfl
theorem mt_Run_isInList : am_MT[43]? = some m_Run_isInList := rfl
theorem c_Run_isInList_0 : c_Run_isInList[0]? = some (0, 1, .iload_n 1, 1, 0, 0, 0, 0, []) := Eq.trans rfl rfl
theorem c_Run_isInList_1 : c_Run_isInList[1]? = some (1, 2, .bipush 6, 0, 0, 0, 0, 0, []) := Eq.trans rfl rfl
theorem c_Run_isInList_2 : c_Run_isInList[2]? = some (3, 3, .if_icmp .ge 16, 10, 0, 0, 0, 0, []) := Eq.trans rfl rfl
theorem c_Run_isInList_3 : c_Run_isInList[3]? = some (6, 1, .aload_n 0, 0, 0, 0, 0, 0, []) := Eq.trans rfl rfl
theorem c_Run_isInList_4 : c_Run_isInList[4]? = some (7, 3, .getfield 43, 3, 10, 0, 0, 216, []) := Eq.trans rfl rfl
theorem c_Run_isInList_5 : c_Run_isInList[5]? = some (10, 1, .iload_n 1, 1, 0, 0, 0, 0, []) := Eq.trans rfl rfl
theorem c_Run_isInList_6 : c_Run_isInList[6]? = some (11, 1, .baload, 0, 0, 0, 0, 0, []) := Eq.trans rfl rfl
theorem c_Run_isInList_7 : c_Run_isInList[7]? = some (12, 3, .ifCond .eq 7, 10, 0, 0, 0, 0, []) := Eq.trans rfl rfl
theorem c_Run_isInList_8 : c_Run_isInList[8]? = some (15, 1, .iconst 1, 0, 0, 0, 0, 0, []) := Eq.trans rfl rfl
theorem c_Run_isInList_9 : c_Run_isInList[9]? = some (16, 3, .goto 4, 11, 0, 0, 0, 0, []) := Eq.trans rfl rfl
theorem c_Run_isInList_10 : c_Run_isInList[10]? = some (19, 1, .iconst 0, 0, 0, 0, 0, 0, []) := Eq.trans rfl rfl
theorem c_Run_isInList_11 : c_Run_isInList[11]? = some (20, 1, .ireturn, 0, 0, 0, 3, 0, []) := Eq.trans rfl rfl
theorem mt_Run_nextInList : am_MT[44]? = some m_Run_nextInList := rfl
theorem c_Run_nextInList_0 : c_Run_nextInList[0]? = some (0, 1, .aload_n 0, 0, 0, 0, 0, 0, []) := Eq.trans rfl rfl
theorem c_Run_nextInList_1 : c_Run_nextInList[1]? = some (1, 3, .getfield 47, 3, 11, 0, 0, 217, []) := Eq.trans rfl rfl
theorem c_Run_nextInList_2 : c_Run_nextInList[2]? = some (4, 1, .iload_n 2, 2, 0, 0, 0, 0, []) := Eq.trans rfl rfl
theorem c_Run_nextInList_3 : c_Run_nextInList[3]? = some (5, 1, .iaload, 0, 0, 0, 0, 0, []) := Eq.trans rfl rfl
theorem c_Run_nextInList_4 : c_Run_nextInList[4]? = some (6, 1, .istore_n 3, 3, 0, 0, 0, 0, []) := Eq.trans rfl rfl
theorem c_Run_nextInList_5 : c_Run_nextInList[5]? = some (7, 1, .iload_n 3, 3, 0, 0, 0, 0, []) := Eq.trans rfl rfl
theorem c_Run_nextInList_6 : c_Run_nextInList[6]? = some (8, 1, .aload_n 0, 0, 0, 0, 0, 0, []) := Eq.trans rfl rfl
theorem c_Run_nextInList_7 : c_Run_nextInList[7]? = some (9, 3, .getfield 56, 3, 7, 0, 0, 213, []) := Eq.trans rfl rfl
theorem c_Run_nextInList_8 : c_Run_nextInList[8]? = some (12, 3, .getfield 120, 1, 5, 0, 0, 106, []) := Eq.trans rfl rfl
theorem c_Run_nextInList_9 : c_Run_nextInList[9]? = some (15, 1, .iload_n 2, 2, 0, 0, 0, 0, []) := Eq.trans rfl rfl
theorem c_Run_nextInList_10 : c_Run_nextInList[10]? = some (16, 1, .iaload, 0, 0, 0, 0, 0, []) := Eq.trans rfl rfl
theorem c_Run_nextInList_11 : c_Run_nextInList[11]? = some (17, 3, .if_icmp .ge 57, 42, 0, 0, 0, 0, []) := Eq.trans rfl rfl
theorem c_Run_nextInList_12 : c_Run_nextInList[12]? = some (20, 1, .aload_n 0, 0, 0, 0, 0, 0, []) := Eq.trans rfl rfl
theorem c_Run_nextInList_13 : c_Run_nextInList[13]? = some (21, 3, .getfield 56, 3, 7, 0, 0, 213, []) := Eq.trans rfl rfl
theorem c_Run_nextInList_14 : c_Run_nextInList[14]? = some (24, 3, .getfield 89, 1, 4, 0, 0, 102, []) := Eq.trans rfl rfl
theorem c_Run_nextInList_15 : c_Run_nextInList[15]? = some (27, 1, .iload_n 2, 2, 0, 0, 0, 0, []) := Eq.trans rfl rfl
theorem c_Run_nextInList_16 : c_Run_nextInList[16]? = some (28, 1, .aaload, 0, 0, 0, 0, 0, []) := Eq.trans rfl rfl
theorem c_Run_nextInList_17 : c_Run_nextInList[17]? = some (29, 1, .iload_n 3, 3, 0, 0, 0, 0, []) := Eq.trans rfl rfl
theorem c_Run_nextInList_18 : c_Run_nextInList[18]? = some (30, 1, .iaload, 0, 0, 0, 0, 0, []) := Eq.trans rfl rfl
theorem c_Run_nextInList_19 : c_Run_nextInList[19]? = some (31, 2, .istore 4, 4, 0, 0, 0, 0, []) := Eq.trans rfl rfl
theorem c_Run_nextInList_20 : c_Run_nextInList[20]? = some (33, 1, .aload_n 0, 0, 0, 0, 0, 0, []) := Eq.trans rfl rfl
theorem c_Run_nextInList_21 : c_Run_nextInList[21]? = some (34, 3, .getfield 22, 3, 2, 0, 0, 203, []) := Eq.trans rfl rfl
theorem c_Run_nextInList_22 : c_Run_nextInList[22]? = some (37, 2, .iload 4, 4, 0, 0, 0, 0, []) := Eq.trans rfl rfl
theorem c_Run_nextInList_23 : c_Run_nextInList[23]? = some (39, 1, .iaload, 0, 0, 0, 0, 0, []) := Eq.trans rfl rfl
theorem c_Run_nextInList_24 : c_Run_nextInList[24]? = some (40, 1, .iconst 2, 0, 0, 0, 0, 0, []) := Eq.trans rfl rfl
theorem c_Run_nextInList_25 : c_Run_nextInList[25]? = some (41, 3, .if_icmp .eq 27, 40, 0, 0, 0, 0, []) := Eq.trans rfl rfl
theorem c_Run_nextInList_26 : c_Run_nextInList[26]? = some (44, 1, .aload_n 0, 0, 0, 0, 0, 0, []) := Eq.trans rfl rfl
theorem c_Run_nextInList_27 : c_Run_nextInList[27]? = some (45, 3, .getfield 22, 3, 2, 0, 0, 203, []) := Eq.trans rfl rfl
theorem c_Run_nextInList_28 : c_Run_nextInList[28]? = some (48, 2, .iload 4, 4, 0, 0, 0, 0, []) := Eq.trans rfl rfl
theorem c_Run_nextInList_29 : c_Run_nextInList[29]? = some (50, 1, .iaload, 0, 0, 0, 0, 0, []) := Eq.trans rfl rfl
theorem c_Run_nextInList_30 : c_Run_nextInList[30]? = some (51, 1, .iconst 1, 0, 0, 0, 0, 0, []) := Eq.trans rfl rfl
theorem c_Run_nextInList_31 : c_Run_nextInList[31]? = some (52, 3, .if_icmp .ne 14, 38, 0, 0, 0, 0, []) := Eq.trans rfl rfl
theorem c_Run_nextInList_32 : c_Run_nextInList[32]? = some (55, 1, .aload_n 0, 0, 0, 0, 0, 0, []) := Eq.trans rfl rfl
theorem c_Run_nextInList_33 : c_Run_nextInList[33]? = some (56, 3, .getfield 26, 3, 3, 0, 0, 205, []) := Eq.trans rfl rfl
theorem c_Run_nextInList_34 : c_Run_nextInList[34]? = some (59, 2, .iload 4, 4, 0, 0, 0, 0, []) := Eq.trans rfl rfl
theorem c_Run_nextInList_35 : c_Run_nextInList[35]? = some (61, 1, .iaload, 0, 0, 0, 0, 0, []) := Eq.trans rfl rfl
theorem c_Run_nextInList_36 : c_Run_nextInList[36]? = some (62, 1, .iload_n 1, 1, 0, 0, 0, 0, []) := Eq.trans rfl rfl
theorem c_Run_nextInList_37 : c_Run_nextInList[37]? = some (63, 3, .if_icmp .eq 5, 40, 0, 0, 0, 0, []) := Eq.trans rfl rfl
theorem c_Run_nextInList_38 : c_Run_nextInList[38]? = some (66, 1, .iload_n 3, 3, 0, 0, 0, 0, []) := Eq.trans rfl rfl
theorem c_Run_nextInList_39 : c_Run_nextInList[39]? = some (67, 1, .ireturn, 0, 0, 0, 0, 0, []) := Eq.trans rfl rfl
theorem c_Run_nextInList_40 : c_Run_nextInList[40]? = some (68, 3, .iinc 3 1, 0, 0, 0, 0, 0, []) := Eq.trans rfl rfl
theorem c_Run_nextInList_41 : c_Run_nextInList[41]? = some (71, 3, .goto (-64), 5, 0, 0, 0, 0, []) := Eq.trans rfl rfl
theorem c_Run_nextInList_42 : c_Run_nextInList[42]? = some (74, 1, .iconst (-1), 0, 0, 0, 0, 0, []) := Eq.trans rfl rfl
theorem c_Run_nextInList_43 : c_Run_nextInList[43]? = some (75, 1, .ireturn, 0, 0, 0, 0, 0, []) := Eq.trans rfl rfl
/-- the class's log gets a row, where there is room -/
def cl_a (m : Int) (f : Int → Int) (a b c : Int) : Int × (Int → Int) := if 60 ≤ m then (m, f) else (m + 1, vI (vI (vI f (m * 3) a) (m * 3 + 1) b) (m * 3 + 2) c)
def cl_L : List (Int × Int × Int) → Int → (Int → Int) → Int × (Int → Int)
  | [], m, f => (m, f)
  | e :: L, m, f => cl_L L (cl_a m f e.1 e.2.1 e.2.2).1 (cl_a m f e.1 e.2.1 e.2.2).2
theorem cl_a_0 {m : Int} {f : Int → Int} {a b c : Int} (h : 0 ≤ m) : 0 ≤ (cl_a m f a b c).1 := by
  unfold cl_a
  split
  · exact h
  · show 0 ≤ m + 1
    omega
theorem cl_L_0 : ∀ (L : List (Int × Int × Int)) (m : Int) (f : Int → Int), 0 ≤ m → 0 ≤ (cl_L L m f).1 := by
  intro L
  induction L with
  | nil => intro m f h; exact h
  | cons e L ih => intro m f h; exact ih _ _ (cl_a_0 h)
theorem ct_add (d : Nat) (hd : 1 ≤ d) (h : am_H) (p q w : Nat) (n m : Int) (X : Nat → Int → Int) (S : Int → Int → Int) (H : ru_at h p q w n m X S) (hm : 0 ≤ m ∧ m < 2000000) (a b c : Int) : am_Ct am_df am_MT d 50 [.ref (p + 1), .int (iI a), .int (iI b), .int (iI c)] h (fun r0 h' => r0 = none ∧ ru_to h p q w n (cl_a m (X 2) a b c).1 (va_up X 2 (cl_a m (X 2) a b c).2) S h') := by
  have H' := H
  obtain ⟨h0, hO, hG, hA, hB, hS⟩ := H'
  unfold cl_a
  obtain ⟨d, rfl⟩ : ∃ e, d = e + 1 := ⟨d - 1, by omega⟩
  refine am_ct_of2 mt_Log_add (Nat.le_of_ble_eq_true rfl) ?_
  simp only [ar_nil, ar_int, ar_ref, ar_long, Nat.reduceAdd]
  by_cases e1 : 60 ≤ m
  · have e2 : ¬ m < 60 := by omega
    rw [if_pos e1]
    refine am_go_of 10 [] _ c_Log_add_0 ?_
    simp (maxSteps := 2000000) (disch := omega) only [c_Log_add_0, c_Log_add_1, c_Log_add_2, c_Log_add_3, c_Log_add_4, c_Log_add_5, c_Log_add_6, c_Log_add_7, c_Log_add_8, c_Log_add_9, c_Log_add_10, c_Log_add_11, c_Log_add_12, c_Log_add_13, c_Log_add_14, c_Log_add_15, c_Log_add_16, c_Log_add_17, c_Log_add_18, c_Log_add_19, c_Log_add_20, c_Log_add_21, c_Log_add_22, c_Log_add_23, c_Log_add_24, c_Log_add_25, c_Log_add_26, c_Log_add_27, c_Log_add_28, c_Log_add_29, c_Log_add_30, c_Log_add_31, c_Log_add_32, c_Log_add_33, c_Log_add_34, c_Log_add_35, sx_aload_n, sx_bipush, sx_dup_i, sx_dup_r, sx_getfield, sx_iadd, sx_iastore, sx_iconst, sx_if_icmp_lt, sx_iload, sx_iload_n, sx_imul, sx_istore, sx_putfield, sx_return, am_W_s, am_W_0, am_mm_some, List.mem_cons, or_false, false_or, or_self, or_true, true_or, reduceIte, if_false, if_true, am_o_some, am_o_none, am_o_bad, am_o_good, am_ldi_hit, am_ldi_miss, am_lda_hit, am_lda_miss, am_ldl_hit, am_ldl_miss, am_inc_eq, am_inc_hit, am_inc_miss, am_ob_hit, am_fd_0, am_fd_s, am_ai_hit, am_ab_3, am_al_hit, am_aq_4, am_al0_hit, am_put_1, am_put_2, am_put_put, am_up_hit, am_up_miss, am_s1_eq, am_s2_eq, am_fl_nil, am_fl_hit, am_fl_int, am_fl_ref, am_fl_long, am_fl_longx, am_fl2_nil, am_fl2_hit, am_fl2_hit1, am_fl2_int, am_fl2_ref, am_fl2_long, List.not_mem_nil, not_false_eq_true, ne_eq, Nat.reduceAdd, Nat.reduceEqDiff, Nat.zero_add, Nat.add_left_cancel_iff, List.set_cons_zero, List.set_cons_succ, List.length_cons, List.length_nil, Nat.reduceLT, am_ft_i, am_ft_r, am_ft_z, and_true, true_and, Option.toList_some, Option.toList_none, List.cons_append, List.nil_append, List.drop_succ_cons, List.drop_zero, iI_c, iI_b, iI_s, iI_n, iI_add, iI_sub, iI_mul, iI_neg, iI_nle, iI_ix, iI_eq0, iI_eq1, iI_lt0, iI_0lt, iI_le0, iI_0le, iI_eq, iI_lt, iI_le, iI_upd, iI_updZ, Int.reduceEq, Int.reduceLT, Int.reduceLE, Int.reduceNeg, Int.reduceNe, hG, e2, lo_fs_len, lo_f0, lo_f1, lo_s0, ru_fs_len, ru_f0, ru_f1, ru_f2, ru_f3, ru_f4, ru_f5, ru_f6, ru_f7, ru_f8, ru_f9, ru_f10, ru_f11, ru_f12, ru_f13, ru_s0, ru_t2, ru_l2, ru_t3, ru_l3, ru_t4, ru_l4, ru_t5, ru_l5, ru_t10, ru_l10, ru_t11, ru_l11, ru_t12, ru_l12, ru_t13, ru_l13, ru_t14, ru_l14, ru_t15, ru_l15, rw_hit]
    rw [va_up_same rfl]
    exact H.rf
  · have e2 : m < 60 := by omega
    rw [if_neg e1]
    refine am_go_of 60 [] _ c_Log_add_0 ?_
    simp (maxSteps := 2000000) (disch := omega) only [c_Log_add_0, c_Log_add_1, c_Log_add_2, c_Log_add_3, c_Log_add_4, c_Log_add_5, c_Log_add_6, c_Log_add_7, c_Log_add_8, c_Log_add_9, c_Log_add_10, c_Log_add_11, c_Log_add_12, c_Log_add_13, c_Log_add_14, c_Log_add_15, c_Log_add_16, c_Log_add_17, c_Log_add_18, c_Log_add_19, c_Log_add_20, c_Log_add_21, c_Log_add_22, c_Log_add_23, c_Log_add_24, c_Log_add_25, c_Log_add_26, c_Log_add_27, c_Log_add_28, c_Log_add_29, c_Log_add_30, c_Log_add_31, c_Log_add_32, c_Log_add_33, c_Log_add_34, c_Log_add_35, sx_aload_n, sx_bipush, sx_dup_i, sx_dup_r, sx_getfield, sx_iadd, sx_iastore, sx_iconst, sx_if_icmp_lt, sx_iload, sx_iload_n, sx_imul, sx_istore, sx_putfield, sx_return, am_W_s, am_W_0, am_mm_some, List.mem_cons, or_false, false_or, or_self, or_true, true_or, reduceIte, if_false, if_true, am_o_some, am_o_none, am_o_bad, am_o_good, am_ldi_hit, am_ldi_miss, am_lda_hit, am_lda_miss, am_ldl_hit, am_ldl_miss, am_inc_eq, am_inc_hit, am_inc_miss, am_ob_hit, am_fd_0, am_fd_s, am_ai_hit, am_ab_3, am_al_hit, am_aq_4, am_al0_hit, am_put_1, am_put_2, am_put_put, am_up_hit, am_up_miss, am_s1_eq, am_s2_eq, am_fl_nil, am_fl_hit, am_fl_int, am_fl_ref, am_fl_long, am_fl_longx, am_fl2_nil, am_fl2_hit, am_fl2_hit1, am_fl2_int, am_fl2_ref, am_fl2_long, List.not_mem_nil, not_false_eq_true, ne_eq, Nat.reduceAdd, Nat.reduceEqDiff, Nat.zero_add, Nat.add_left_cancel_iff, List.set_cons_zero, List.set_cons_succ, List.length_cons, List.length_nil, Nat.reduceLT, am_ft_i, am_ft_r, am_ft_z, and_true, true_and, Option.toList_some, Option.toList_none, List.cons_append, List.nil_append, List.drop_succ_cons, List.drop_zero, iI_c, iI_b, iI_s, iI_n, iI_add, iI_sub, iI_mul, iI_neg, iI_nle, iI_ix, iI_eq0, iI_eq1, iI_lt0, iI_0lt, iI_le0, iI_0le, iI_eq, iI_lt, iI_le, iI_upd, iI_updZ, Int.reduceEq, Int.reduceLT, Int.reduceLE, Int.reduceNeg, Int.reduceNe, hG, hA, e2, lo_fs_len, lo_f0, lo_f1, lo_s0, ru_fs_len, ru_f0, ru_f1, ru_f2, ru_f3, ru_f4, ru_f5, ru_f6, ru_f7, ru_f8, ru_f9, ru_f10, ru_f11, ru_f12, ru_f13, ru_s0, ru_t2, ru_l2, ru_t3, ru_l3, ru_t4, ru_l4, ru_t5, ru_l5, ru_t10, ru_l10, ru_t11, ru_l11, ru_t12, ru_l12, ru_t13, ru_l13, ru_t14, ru_l14, ru_t15, ru_l15, rw_hit]
    repeat (refine And.intro (by omega) ?_)
    exact (H.rf.row (k := 2) (t := 0) (l := 180) (g := vI (vI (vI (X 2) (m * 3) a) (m * 3 + 1) b) (m * 3 + 2) c) ⟨by decide, by decide, by decide⟩ rfl rfl).lg (m1 := m + 1)
/-- the BODY on top: of a TYPE, or 6 and the THREAD -/
def cs_top (r : rn) (th : Int) : Int := if r_mn r th = 0 then 6 + th else r_sk r th (r_mn r th - 1)
theorem ct_Rtop (d : Nat) (hd : 1 ≤ d) (h : am_H) (p q w : Nat) (n m : Int) (X : Nat → Int → Int) (S : Int → Int → Int) (H : ru_at h p q w n m X S) (r : rn) (hr : rn_rg r) (ho : ru_ok r X S) (th : Int) (hth : 0 ≤ th ∧ th < 3) : am_Ct am_df am_MT d 42 [.ref p, .int (iI th)] h (fun r0 h' => r0 = some (.int (iI (cs_top r th))) ∧ h' = h) := by
  obtain ⟨h0, hO, hG, hA, hB, hS⟩ := H
  have e1 := hr.2.1 th hth
  have e2 := (ho.2.1 th hth).1
  unfold cs_top
  obtain ⟨d, rfl⟩ : ∃ e, d = e + 1 := ⟨d - 1, by omega⟩
  refine am_ct_of2 mt_Run_top (Nat.le_of_ble_eq_true rfl) ?_
  simp only [ar_nil, ar_int, ar_ref, ar_long, Nat.reduceAdd]
  by_cases c : r_mn r th = 0
  · have e3 : X 10 th = 0 := e2.trans c
    rw [if_pos c]
    refine am_go_of 30 [] _ c_Run_top_0 ?_
    simp (maxSteps := 2000000) (disch := omega) only [c_Run_top_0, c_Run_top_1, c_Run_top_2, c_Run_top_3, c_Run_top_4, c_Run_top_5, c_Run_top_6, c_Run_top_7, c_Run_top_8, c_Run_top_9, c_Run_top_10, c_Run_top_11, c_Run_top_12, c_Run_top_13, c_Run_top_14, c_Run_top_15, c_Run_top_16, c_Run_top_17, c_Run_top_18, c_Run_top_19, c_Run_top_20, sx_aaload, sx_aload_n, sx_bipush, sx_getfield, sx_goto, sx_iadd, sx_iaload, sx_iconst, sx_ifCond_ne, sx_iload_n, sx_ireturn, sx_isub, sx_zreturn, am_W_s, am_W_0, am_mm_some, List.mem_cons, or_false, false_or, or_self, or_true, true_or, reduceIte, if_false, if_true, am_o_some, am_o_none, am_o_bad, am_o_good, am_ldi_hit, am_ldi_miss, am_lda_hit, am_lda_miss, am_ldl_hit, am_ldl_miss, am_inc_eq, am_inc_hit, am_inc_miss, am_ob_hit, am_fd_0, am_fd_s, am_ai_hit, am_ab_3, am_al_hit, am_aq_4, am_al0_hit, am_put_1, am_put_2, am_put_put, am_up_hit, am_up_miss, am_s1_eq, am_s2_eq, am_fl_nil, am_fl_hit, am_fl_int, am_fl_ref, am_fl_long, am_fl_longx, am_fl2_nil, am_fl2_hit, am_fl2_hit1, am_fl2_int, am_fl2_ref, am_fl2_long, List.not_mem_nil, not_false_eq_true, ne_eq, Nat.reduceAdd, Nat.reduceEqDiff, Nat.zero_add, Nat.add_left_cancel_iff, List.set_cons_zero, List.set_cons_succ, List.length_cons, List.length_nil, Nat.reduceLT, am_ft_i, am_ft_r, am_ft_z, and_true, true_and, Option.toList_some, Option.toList_none, List.cons_append, List.nil_append, List.drop_succ_cons, List.drop_zero, iI_c, iI_b, iI_s, iI_n, iI_add, iI_sub, iI_mul, iI_neg, iI_nle, iI_ix, iI_eq0, iI_eq1, iI_lt0, iI_0lt, iI_le0, iI_0le, iI_eq, iI_lt, iI_le, iI_upd, iI_updZ, Int.reduceEq, Int.reduceLT, Int.reduceLE, Int.reduceNeg, Int.reduceNe, hO, hA, e3, ru_fs_len, ru_f0, ru_f1, ru_f2, ru_f3, ru_f4, ru_f5, ru_f6, ru_f7, ru_f8, ru_f9, ru_f10, ru_f11, ru_f12, ru_f13, ru_s0, ru_t2, ru_l2, ru_t3, ru_l3, ru_t4, ru_l4, ru_t5, ru_l5, ru_t10, ru_l10, ru_t11, ru_l11, ru_t12, ru_l12, ru_t13, ru_l13, ru_t14, ru_l14, ru_t15, ru_l15, lo_fs_len, lo_f0, lo_f1, lo_s0, ty_fs_len, ty_f0, ty_f1, ty_f2, ty_f3, ty_f4, ty_f5, ty_f6, ty_f7, ty_f8, ty_f9, ty_s0, ty_t1, ty_l1, ty_t2, ty_l2, ty_t3, ty_l3, ty_t11, ty_l11, ty_t12, ty_l12, ty_t13, ty_l13, ty_t14, ty_l14, bo_fs_len, bo_f0, bo_f1, bo_f2, bo_f3, bo_f4, bo_f5, bo_f6, bo_f7, bo_f8, bo_s0, rw_hit]
    repeat (refine And.intro (by omega) ?_)
    all_goals (first | rfl | trivial | omega)
  · have e4 := ho.2.2 th (r_mn r th - 1) hth ⟨by omega, by omega⟩
    rw [if_neg c]
    refine am_go_of 30 [] _ c_Run_top_0 ?_
    simp (maxSteps := 2000000) (disch := omega) only [c_Run_top_0, c_Run_top_1, c_Run_top_2, c_Run_top_3, c_Run_top_4, c_Run_top_5, c_Run_top_6, c_Run_top_7, c_Run_top_8, c_Run_top_9, c_Run_top_10, c_Run_top_11, c_Run_top_12, c_Run_top_13, c_Run_top_14, c_Run_top_15, c_Run_top_16, c_Run_top_17, c_Run_top_18, c_Run_top_19, c_Run_top_20, sx_aaload, sx_aload_n, sx_bipush, sx_getfield, sx_goto, sx_iadd, sx_iaload, sx_iconst, sx_ifCond_ne, sx_iload_n, sx_ireturn, sx_isub, sx_zreturn, am_W_s, am_W_0, am_mm_some, List.mem_cons, or_false, false_or, or_self, or_true, true_or, reduceIte, if_false, if_true, am_o_some, am_o_none, am_o_bad, am_o_good, am_ldi_hit, am_ldi_miss, am_lda_hit, am_lda_miss, am_ldl_hit, am_ldl_miss, am_inc_eq, am_inc_hit, am_inc_miss, am_ob_hit, am_fd_0, am_fd_s, am_ai_hit, am_ab_3, am_al_hit, am_aq_4, am_al0_hit, am_put_1, am_put_2, am_put_put, am_up_hit, am_up_miss, am_s1_eq, am_s2_eq, am_fl_nil, am_fl_hit, am_fl_int, am_fl_ref, am_fl_long, am_fl_longx, am_fl2_nil, am_fl2_hit, am_fl2_hit1, am_fl2_int, am_fl2_ref, am_fl2_long, List.not_mem_nil, not_false_eq_true, ne_eq, Nat.reduceAdd, Nat.reduceEqDiff, Nat.zero_add, Nat.add_left_cancel_iff, List.set_cons_zero, List.set_cons_succ, List.length_cons, List.length_nil, Nat.reduceLT, am_ft_i, am_ft_r, am_ft_z, and_true, true_and, Option.toList_some, Option.toList_none, List.cons_append, List.nil_append, List.drop_succ_cons, List.drop_zero, iI_c, iI_b, iI_s, iI_n, iI_add, iI_sub, iI_mul, iI_neg, iI_nle, iI_ix, iI_eq0, iI_eq1, iI_lt0, iI_0lt, iI_le0, iI_0le, iI_eq, iI_lt, iI_le, iI_upd, iI_updZ, Int.reduceEq, Int.reduceLT, Int.reduceLE, Int.reduceNeg, Int.reduceNe, hO, hA, hB, hS, e2, c, e4, ru_fs_len, ru_f0, ru_f1, ru_f2, ru_f3, ru_f4, ru_f5, ru_f6, ru_f7, ru_f8, ru_f9, ru_f10, ru_f11, ru_f12, ru_f13, ru_s0, ru_t2, ru_l2, ru_t3, ru_l3, ru_t4, ru_l4, ru_t5, ru_l5, ru_t10, ru_l10, ru_t11, ru_l11, ru_t12, ru_l12, ru_t13, ru_l13, ru_t14, ru_l14, ru_t15, ru_l15, lo_fs_len, lo_f0, lo_f1, lo_s0, ty_fs_len, ty_f0, ty_f1, ty_f2, ty_f3, ty_f4, ty_f5, ty_f6, ty_f7, ty_f8, ty_f9, ty_s0, ty_t1, ty_l1, ty_t2, ty_l2, ty_t3, ty_l3, ty_t11, ty_l11, ty_t12, ty_l12, ty_t13, ty_l13, ty_t14, ty_l14, bo_fs_len, bo_f0, bo_f1, bo_f2, bo_f3, bo_f4, bo_f5, bo_f6, bo_f7, bo_f8, bo_s0, rw_hit]
    repeat (refine And.intro (by omega) ?_)
    all_goals (first | rfl | trivial | omega)
theorem ct_isInList (d : Nat) (hd : 1 ≤ d) (h : am_H) (p q w : Nat) (n m : Int) (X : Nat → Int → Int) (S : Int → Int → Int) (H : ru_at h p q w n m X S) (b : Int) (hb : 0 ≤ b ∧ b < 9) (hx : b < 6 → X 12 b = 0 ∨ X 12 b = 1) : am_Ct am_df am_MT d 43 [.ref p, .int (iI b)] h (fun r0 h' => r0 = some (.int (iI (if b < 6 then X 12 b else 0))) ∧ h' = h) := by
  obtain ⟨h0, hO, hG, hA, hB, hS⟩ := H
  obtain ⟨d, rfl⟩ : ∃ e, d = e + 1 := ⟨d - 1, by omega⟩
  refine am_ct_of2 mt_Run_isInList (Nat.le_of_ble_eq_true rfl) ?_
  simp only [ar_nil, ar_int, ar_ref, ar_long, Nat.reduceAdd]
  by_cases c : b < 6
  · have c1 : ¬ 6 ≤ b := by omega
    rw [if_pos c]
    rcases hx c with e | e
    · refine am_go_of 30 [] _ c_Run_isInList_0 ?_
      simp (maxSteps := 2000000) (disch := omega) only [c_Run_isInList_0, c_Run_isInList_1, c_Run_isInList_2, c_Run_isInList_3, c_Run_isInList_4, c_Run_isInList_5, c_Run_isInList_6, c_Run_isInList_7, c_Run_isInList_8, c_Run_isInList_9, c_Run_isInList_10, c_Run_isInList_11, sx_aload_n, sx_baload, sx_bipush, sx_getfield, sx_goto, sx_iconst, sx_ifCond_eq, sx_if_icmp_ge, sx_iload_n, sx_ireturn, sx_zreturn, am_W_s, am_W_0, am_mm_some, List.mem_cons, or_false, false_or, or_self, or_true, true_or, reduceIte, if_false, if_true, am_o_some, am_o_none, am_o_bad, am_o_good, am_ldi_hit, am_ldi_miss, am_lda_hit, am_lda_miss, am_ldl_hit, am_ldl_miss, am_inc_eq, am_inc_hit, am_inc_miss, am_ob_hit, am_fd_0, am_fd_s, am_ai_hit, am_ab_3, am_al_hit, am_aq_4, am_al0_hit, am_put_1, am_put_2, am_put_put, am_up_hit, am_up_miss, am_s1_eq, am_s2_eq, am_fl_nil, am_fl_hit, am_fl_int, am_fl_ref, am_fl_long, am_fl_longx, am_fl2_nil, am_fl2_hit, am_fl2_hit1, am_fl2_int, am_fl2_ref, am_fl2_long, List.not_mem_nil, not_false_eq_true, ne_eq, Nat.reduceAdd, Nat.reduceEqDiff, Nat.zero_add, Nat.add_left_cancel_iff, List.set_cons_zero, List.set_cons_succ, List.length_cons, List.length_nil, Nat.reduceLT, am_ft_i, am_ft_r, am_ft_z, and_true, true_and, Option.toList_some, Option.toList_none, List.cons_append, List.nil_append, List.drop_succ_cons, List.drop_zero, iI_c, iI_b, iI_s, iI_n, iI_add, iI_sub, iI_mul, iI_neg, iI_nle, iI_ix, iI_eq0, iI_eq1, iI_lt0, iI_0lt, iI_le0, iI_0le, iI_eq, iI_lt, iI_le, iI_upd, iI_updZ, Int.reduceEq, Int.reduceLT, Int.reduceLE, Int.reduceNeg, Int.reduceNe, hO, hA, c1, e, ru_fs_len, ru_f0, ru_f1, ru_f2, ru_f3, ru_f4, ru_f5, ru_f6, ru_f7, ru_f8, ru_f9, ru_f10, ru_f11, ru_f12, ru_f13, ru_s0, ru_t2, ru_l2, ru_t3, ru_l3, ru_t4, ru_l4, ru_t5, ru_l5, ru_t10, ru_l10, ru_t11, ru_l11, ru_t12, ru_l12, ru_t13, ru_l13, ru_t14, ru_l14, ru_t15, ru_l15, lo_fs_len, lo_f0, lo_f1, lo_s0, ty_fs_len, ty_f0, ty_f1, ty_f2, ty_f3, ty_f4, ty_f5, ty_f6, ty_f7, ty_f8, ty_f9, ty_s0, ty_t1, ty_l1, ty_t2, ty_l2, ty_t3, ty_l3, ty_t11, ty_l11, ty_t12, ty_l12, ty_t13, ty_l13, ty_t14, ty_l14, bo_fs_len, bo_f0, bo_f1, bo_f2, bo_f3, bo_f4, bo_f5, bo_f6, bo_f7, bo_f8, bo_s0, rw_hit]
      repeat (refine And.intro (by omega) ?_)
      all_goals (first | trivial | rfl | omega | exact ⟨Or.inl rfl, rfl⟩)
    · refine am_go_of 30 [] _ c_Run_isInList_0 ?_
      simp (maxSteps := 2000000) (disch := omega) only [c_Run_isInList_0, c_Run_isInList_1, c_Run_isInList_2, c_Run_isInList_3, c_Run_isInList_4, c_Run_isInList_5, c_Run_isInList_6, c_Run_isInList_7, c_Run_isInList_8, c_Run_isInList_9, c_Run_isInList_10, c_Run_isInList_11, sx_aload_n, sx_baload, sx_bipush, sx_getfield, sx_goto, sx_iconst, sx_ifCond_eq, sx_if_icmp_ge, sx_iload_n, sx_ireturn, sx_zreturn, am_W_s, am_W_0, am_mm_some, List.mem_cons, or_false, false_or, or_self, or_true, true_or, reduceIte, if_false, if_true, am_o_some, am_o_none, am_o_bad, am_o_good, am_ldi_hit, am_ldi_miss, am_lda_hit, am_lda_miss, am_ldl_hit, am_ldl_miss, am_inc_eq, am_inc_hit, am_inc_miss, am_ob_hit, am_fd_0, am_fd_s, am_ai_hit, am_ab_3, am_al_hit, am_aq_4, am_al0_hit, am_put_1, am_put_2, am_put_put, am_up_hit, am_up_miss, am_s1_eq, am_s2_eq, am_fl_nil, am_fl_hit, am_fl_int, am_fl_ref, am_fl_long, am_fl_longx, am_fl2_nil, am_fl2_hit, am_fl2_hit1, am_fl2_int, am_fl2_ref, am_fl2_long, List.not_mem_nil, not_false_eq_true, ne_eq, Nat.reduceAdd, Nat.reduceEqDiff, Nat.zero_add, Nat.add_left_cancel_iff, List.set_cons_zero, List.set_cons_succ, List.length_cons, List.length_nil, Nat.reduceLT, am_ft_i, am_ft_r, am_ft_z, and_true, true_and, Option.toList_some, Option.toList_none, List.cons_append, List.nil_append, List.drop_succ_cons, List.drop_zero, iI_c, iI_b, iI_s, iI_n, iI_add, iI_sub, iI_mul, iI_neg, iI_nle, iI_ix, iI_eq0, iI_eq1, iI_lt0, iI_0lt, iI_le0, iI_0le, iI_eq, iI_lt, iI_le, iI_upd, iI_updZ, Int.reduceEq, Int.reduceLT, Int.reduceLE, Int.reduceNeg, Int.reduceNe, hO, hA, c1, e, ru_fs_len, ru_f0, ru_f1, ru_f2, ru_f3, ru_f4, ru_f5, ru_f6, ru_f7, ru_f8, ru_f9, ru_f10, ru_f11, ru_f12, ru_f13, ru_s0, ru_t2, ru_l2, ru_t3, ru_l3, ru_t4, ru_l4, ru_t5, ru_l5, ru_t10, ru_l10, ru_t11, ru_l11, ru_t12, ru_l12, ru_t13, ru_l13, ru_t14, ru_l14, ru_t15, ru_l15, lo_fs_len, lo_f0, lo_f1, lo_s0, ty_fs_len, ty_f0, ty_f1, ty_f2, ty_f3, ty_f4, ty_f5, ty_f6, ty_f7, ty_f8, ty_f9, ty_s0, ty_t1, ty_l1, ty_t2, ty_l2, ty_t3, ty_l3, ty_t11, ty_l11, ty_t12, ty_l12, ty_t13, ty_l13, ty_t14, ty_l14, bo_fs_len, bo_f0, bo_f1, bo_f2, bo_f3, bo_f4, bo_f5, bo_f6, bo_f7, bo_f8, bo_s0, rw_hit]
      repeat (refine And.intro (by omega) ?_)
      all_goals (first | trivial | rfl | omega | exact ⟨Or.inr rfl, rfl⟩)
  · have c1 : 6 ≤ b := by omega
    rw [if_neg c]
    refine am_go_of 30 [] _ c_Run_isInList_0 ?_
    simp (maxSteps := 2000000) (disch := omega) only [c_Run_isInList_0, c_Run_isInList_1, c_Run_isInList_2, c_Run_isInList_3, c_Run_isInList_4, c_Run_isInList_5, c_Run_isInList_6, c_Run_isInList_7, c_Run_isInList_8, c_Run_isInList_9, c_Run_isInList_10, c_Run_isInList_11, sx_aload_n, sx_baload, sx_bipush, sx_getfield, sx_goto, sx_iconst, sx_ifCond_eq, sx_if_icmp_ge, sx_iload_n, sx_ireturn, sx_zreturn, am_W_s, am_W_0, am_mm_some, List.mem_cons, or_false, false_or, or_self, or_true, true_or, reduceIte, if_false, if_true, am_o_some, am_o_none, am_o_bad, am_o_good, am_ldi_hit, am_ldi_miss, am_lda_hit, am_lda_miss, am_ldl_hit, am_ldl_miss, am_inc_eq, am_inc_hit, am_inc_miss, am_ob_hit, am_fd_0, am_fd_s, am_ai_hit, am_ab_3, am_al_hit, am_aq_4, am_al0_hit, am_put_1, am_put_2, am_put_put, am_up_hit, am_up_miss, am_s1_eq, am_s2_eq, am_fl_nil, am_fl_hit, am_fl_int, am_fl_ref, am_fl_long, am_fl_longx, am_fl2_nil, am_fl2_hit, am_fl2_hit1, am_fl2_int, am_fl2_ref, am_fl2_long, List.not_mem_nil, not_false_eq_true, ne_eq, Nat.reduceAdd, Nat.reduceEqDiff, Nat.zero_add, Nat.add_left_cancel_iff, List.set_cons_zero, List.set_cons_succ, List.length_cons, List.length_nil, Nat.reduceLT, am_ft_i, am_ft_r, am_ft_z, and_true, true_and, Option.toList_some, Option.toList_none, List.cons_append, List.nil_append, List.drop_succ_cons, List.drop_zero, iI_c, iI_b, iI_s, iI_n, iI_add, iI_sub, iI_mul, iI_neg, iI_nle, iI_ix, iI_eq0, iI_eq1, iI_lt0, iI_0lt, iI_le0, iI_0le, iI_eq, iI_lt, iI_le, iI_upd, iI_updZ, Int.reduceEq, Int.reduceLT, Int.reduceLE, Int.reduceNeg, Int.reduceNe, hO, hA, c1, ru_fs_len, ru_f0, ru_f1, ru_f2, ru_f3, ru_f4, ru_f5, ru_f6, ru_f7, ru_f8, ru_f9, ru_f10, ru_f11, ru_f12, ru_f13, ru_s0, ru_t2, ru_l2, ru_t3, ru_l3, ru_t4, ru_l4, ru_t5, ru_l5, ru_t10, ru_l10, ru_t11, ru_l11, ru_t12, ru_l12, ru_t13, ru_l13, ru_t14, ru_l14, ru_t15, ru_l15, lo_fs_len, lo_f0, lo_f1, lo_s0, ty_fs_len, ty_f0, ty_f1, ty_f2, ty_f3, ty_f4, ty_f5, ty_f6, ty_f7, ty_f8, ty_f9, ty_s0, ty_t1, ty_l1, ty_t2, ty_l2, ty_t3, ty_l3, ty_t11, ty_l11, ty_t12, ty_l12, ty_t13, ty_l13, ty_t14, ty_l14, bo_fs_len, bo_f0, bo_f1, bo_f2, bo_f3, bo_f4, bo_f5, bo_f6, bo_f7, bo_f8, bo_s0, rw_hit]
    all_goals (first | trivial | rfl | omega | exact ⟨Or.inl rfl, rfl⟩)
