theorem mt_Points_slotAt : am_MT[85]? = some m_Points_slotAt := rfl
theorem c_Points_slotAt_0 : c_Points_slotAt[0]? = some (0, 1, .aload_n 0, 0, 0, 0, 0, 0, []) := Eq.trans rfl rfl
theorem c_Points_slotAt_1 : c_Points_slotAt[1]? = some (1, 3, .getfield 19, 6, 2, 0, 0, 265, []) := Eq.trans rfl rfl
theorem c_Points_slotAt_2 : c_Points_slotAt[2]? = some (4, 1, .iload_n 1, 1, 0, 0, 0, 0, []) := Eq.trans rfl rfl
theorem c_Points_slotAt_3 : c_Points_slotAt[3]? = some (5, 1, .iconst 4, 0, 0, 0, 0, 0, []) := Eq.trans rfl rfl
theorem c_Points_slotAt_4 : c_Points_slotAt[4]? = some (6, 1, .idiv, 0, 0, 0, 0, 0, []) := Eq.trans rfl rfl
theorem c_Points_slotAt_5 : c_Points_slotAt[5]? = some (7, 1, .laload, 0, 0, 0, 0, 0, []) := Eq.trans rfl rfl
theorem c_Points_slotAt_6 : c_Points_slotAt[6]? = some (8, 1, .lstore_n 2, 2, 0, 0, 0, 0, []) := Eq.trans rfl rfl
theorem c_Points_slotAt_7 : c_Points_slotAt[7]? = some (9, 1, .lload_n 2, 2, 0, 0, 0, 0, []) := Eq.trans rfl rfl
theorem c_Points_slotAt_8 : c_Points_slotAt[8]? = some (10, 1, .iload_n 1, 1, 0, 0, 0, 0, []) := Eq.trans rfl rfl
theorem c_Points_slotAt_9 : c_Points_slotAt[9]? = some (11, 1, .iconst 4, 0, 0, 0, 0, 0, []) := Eq.trans rfl rfl
theorem c_Points_slotAt_10 : c_Points_slotAt[10]? = some (12, 1, .irem, 0, 0, 0, 0, 0, []) := Eq.trans rfl rfl
theorem c_Points_slotAt_11 : c_Points_slotAt[11]? = some (13, 2, .bipush 16, 0, 0, 0, 0, 0, []) := Eq.trans rfl rfl
theorem c_Points_slotAt_12 : c_Points_slotAt[12]? = some (15, 1, .imul, 0, 0, 0, 0, 0, []) := Eq.trans rfl rfl
theorem c_Points_slotAt_13 : c_Points_slotAt[13]? = some (16, 1, .lushr, 0, 0, 0, 0, 0, []) := Eq.trans rfl rfl
theorem c_Points_slotAt_14 : c_Points_slotAt[14]? = some (17, 1, .l2i, 0, 0, 0, 0, 0, []) := Eq.trans rfl rfl
theorem c_Points_slotAt_15 : c_Points_slotAt[15]? = some (18, 2, .ldc 49, 65535, 0, 0, 0, 661, []) := Eq.trans rfl rfl
theorem c_Points_slotAt_16 : c_Points_slotAt[16]? = some (20, 1, .iand, 0, 0, 0, 0, 0, []) := Eq.trans rfl rfl
theorem c_Points_slotAt_17 : c_Points_slotAt[17]? = some (21, 1, .ireturn, 0, 0, 0, 0, 0, []) := Eq.trans rfl rfl
theorem mt_Points_fillSlot : am_MT[87]? = some m_Points_fillSlot := rfl
theorem c_Points_fillSlot_0 : c_Points_fillSlot[0]? = some (0, 1, .aload_n 0, 0, 0, 0, 0, 0, []) := Eq.trans rfl rfl
theorem c_Points_fillSlot_1 : c_Points_fillSlot[1]? = some (1, 3, .getfield 19, 6, 2, 0, 0, 265, []) := Eq.trans rfl rfl
theorem c_Points_fillSlot_2 : c_Points_fillSlot[2]? = some (4, 1, .iload_n 1, 1, 0, 0, 0, 0, []) := Eq.trans rfl rfl
theorem c_Points_fillSlot_3 : c_Points_fillSlot[3]? = some (5, 1, .iconst 4, 0, 0, 0, 0, 0, []) := Eq.trans rfl rfl
theorem c_Points_fillSlot_4 : c_Points_fillSlot[4]? = some (6, 1, .idiv, 0, 0, 0, 0, 0, []) := Eq.trans rfl rfl
theorem c_Points_fillSlot_5 : c_Points_fillSlot[5]? = some (7, 1, .dup2, 0, 0, 0, 0, 0, []) := Eq.trans rfl rfl
theorem c_Points_fillSlot_6 : c_Points_fillSlot[6]? = some (8, 1, .laload, 0, 0, 0, 0, 0, []) := Eq.trans rfl rfl
theorem c_Points_fillSlot_7 : c_Points_fillSlot[7]? = some (9, 1, .iload_n 2, 2, 0, 0, 0, 0, []) := Eq.trans rfl rfl
theorem c_Points_fillSlot_8 : c_Points_fillSlot[8]? = some (10, 1, .i2l, 0, 0, 0, 0, 0, []) := Eq.trans rfl rfl
theorem c_Points_fillSlot_9 : c_Points_fillSlot[9]? = some (11, 1, .iload_n 1, 1, 0, 0, 0, 0, []) := Eq.trans rfl rfl
theorem c_Points_fillSlot_10 : c_Points_fillSlot[10]? = some (12, 1, .iconst 4, 0, 0, 0, 0, 0, []) := Eq.trans rfl rfl
theorem c_Points_fillSlot_11 : c_Points_fillSlot[11]? = some (13, 1, .irem, 0, 0, 0, 0, 0, []) := Eq.trans rfl rfl
theorem c_Points_fillSlot_12 : c_Points_fillSlot[12]? = some (14, 2, .bipush 16, 0, 0, 0, 0, 0, []) := Eq.trans rfl rfl
theorem c_Points_fillSlot_13 : c_Points_fillSlot[13]? = some (16, 1, .imul, 0, 0, 0, 0, 0, []) := Eq.trans rfl rfl
theorem c_Points_fillSlot_14 : c_Points_fillSlot[14]? = some (17, 1, .lshl, 0, 0, 0, 0, 0, []) := Eq.trans rfl rfl
theorem c_Points_fillSlot_15 : c_Points_fillSlot[15]? = some (18, 1, .lor, 0, 0, 0, 0, 0, []) := Eq.trans rfl rfl
theorem c_Points_fillSlot_16 : c_Points_fillSlot[16]? = some (19, 1, .lastore, 0, 0, 0, 0, 0, []) := Eq.trans rfl rfl
theorem c_Points_fillSlot_17 : c_Points_fillSlot[17]? = some (20, 1, .return_, 0, 0, 0, 0, 0, []) := Eq.trans rfl rfl
theorem mt_Points_firstSlot : am_MT[84]? = some m_Points_firstSlot := rfl
theorem c_Points_firstSlot_0 : c_Points_firstSlot[0]? = some (0, 1, .aload_n 0, 0, 0, 0, 0, 0, []) := Eq.trans rfl rfl
theorem c_Points_firstSlot_1 : c_Points_firstSlot[1]? = some (1, 3, .getfield 15, 6, 1, 0, 0, 263, []) := Eq.trans rfl rfl
theorem c_Points_firstSlot_2 : c_Points_firstSlot[2]? = some (4, 1, .iload_n 1, 1, 0, 0, 0, 0, []) := Eq.trans rfl rfl
theorem c_Points_firstSlot_3 : c_Points_firstSlot[3]? = some (5, 1, .laload, 0, 0, 0, 0, 0, []) := Eq.trans rfl rfl
theorem c_Points_firstSlot_4 : c_Points_firstSlot[4]? = some (6, 3, .ldc2_w 50, 31, 0, 0, 0, 655, []) := Eq.trans rfl rfl
theorem c_Points_firstSlot_5 : c_Points_firstSlot[5]? = some (9, 1, .lmul, 0, 0, 0, 0, 0, []) := Eq.trans rfl rfl
theorem c_Points_firstSlot_6 : c_Points_firstSlot[6]? = some (10, 1, .aload_n 0, 0, 0, 0, 0, 0, []) := Eq.trans rfl rfl
theorem c_Points_firstSlot_7 : c_Points_firstSlot[7]? = some (11, 3, .getfield 15, 6, 1, 0, 0, 263, []) := Eq.trans rfl rfl
theorem c_Points_firstSlot_8 : c_Points_firstSlot[8]? = some (14, 1, .iload_n 1, 1, 0, 0, 0, 0, []) := Eq.trans rfl rfl
theorem c_Points_firstSlot_9 : c_Points_firstSlot[9]? = some (15, 1, .iconst 1, 0, 0, 0, 0, 0, []) := Eq.trans rfl rfl
theorem c_Points_firstSlot_10 : c_Points_firstSlot[10]? = some (16, 1, .iadd, 0, 0, 0, 0, 0, []) := Eq.trans rfl rfl
theorem c_Points_firstSlot_11 : c_Points_firstSlot[11]? = some (17, 1, .laload, 0, 0, 0, 0, 0, []) := Eq.trans rfl rfl
theorem c_Points_firstSlot_12 : c_Points_firstSlot[12]? = some (18, 1, .ladd, 0, 0, 0, 0, 0, []) := Eq.trans rfl rfl
theorem c_Points_firstSlot_13 : c_Points_firstSlot[13]? = some (19, 3, .ldc2_w 50, 31, 0, 0, 0, 655, []) := Eq.trans rfl rfl
theorem c_Points_firstSlot_14 : c_Points_firstSlot[14]? = some (22, 1, .lmul, 0, 0, 0, 0, 0, []) := Eq.trans rfl rfl
theorem c_Points_firstSlot_15 : c_Points_firstSlot[15]? = some (23, 1, .aload_n 0, 0, 0, 0, 0, 0, []) := Eq.trans rfl rfl
theorem c_Points_firstSlot_16 : c_Points_firstSlot[16]? = some (24, 3, .getfield 15, 6, 1, 0, 0, 263, []) := Eq.trans rfl rfl
theorem c_Points_firstSlot_17 : c_Points_firstSlot[17]? = some (27, 1, .iload_n 1, 1, 0, 0, 0, 0, []) := Eq.trans rfl rfl
theorem c_Points_firstSlot_18 : c_Points_firstSlot[18]? = some (28, 1, .iconst 2, 0, 0, 0, 0, 0, []) := Eq.trans rfl rfl
theorem c_Points_firstSlot_19 : c_Points_firstSlot[19]? = some (29, 1, .iadd, 0, 0, 0, 0, 0, []) := Eq.trans rfl rfl
theorem c_Points_firstSlot_20 : c_Points_firstSlot[20]? = some (30, 1, .laload, 0, 0, 0, 0, 0, []) := Eq.trans rfl rfl
theorem c_Points_firstSlot_21 : c_Points_firstSlot[21]? = some (31, 1, .ladd, 0, 0, 0, 0, 0, []) := Eq.trans rfl rfl
theorem c_Points_firstSlot_22 : c_Points_firstSlot[22]? = some (32, 1, .lstore_n 2, 2, 0, 0, 0, 0, []) := Eq.trans rfl rfl
theorem c_Points_firstSlot_23 : c_Points_firstSlot[23]? = some (33, 1, .lload_n 2, 2, 0, 0, 0, 0, []) := Eq.trans rfl rfl
theorem c_Points_firstSlot_24 : c_Points_firstSlot[24]? = some (34, 1, .lload_n 2, 2, 0, 0, 0, 0, []) := Eq.trans rfl rfl
theorem c_Points_firstSlot_25 : c_Points_firstSlot[25]? = some (35, 2, .bipush 32, 0, 0, 0, 0, 0, []) := Eq.trans rfl rfl
theorem c_Points_firstSlot_26 : c_Points_firstSlot[26]? = some (37, 1, .lushr, 0, 0, 0, 0, 0, []) := Eq.trans rfl rfl
theorem c_Points_firstSlot_27 : c_Points_firstSlot[27]? = some (38, 1, .lxor, 0, 0, 0, 0, 0, []) := Eq.trans rfl rfl
theorem c_Points_firstSlot_28 : c_Points_firstSlot[28]? = some (39, 1, .lstore_n 2, 2, 0, 0, 0, 0, []) := Eq.trans rfl rfl
theorem c_Points_firstSlot_29 : c_Points_firstSlot[29]? = some (40, 1, .lload_n 2, 2, 0, 0, 0, 0, []) := Eq.trans rfl rfl
theorem c_Points_firstSlot_30 : c_Points_firstSlot[30]? = some (41, 3, .ldc2_w 52, 11400714819323198485, 0, 0, 0, 656, []) := Eq.trans rfl rfl
theorem c_Points_firstSlot_31 : c_Points_firstSlot[31]? = some (44, 1, .lmul, 0, 0, 0, 0, 0, []) := Eq.trans rfl rfl
theorem c_Points_firstSlot_32 : c_Points_firstSlot[32]? = some (45, 2, .bipush 52, 0, 0, 0, 0, 0, []) := Eq.trans rfl rfl
theorem c_Points_firstSlot_33 : c_Points_firstSlot[33]? = some (47, 1, .lushr, 0, 0, 0, 0, 0, []) := Eq.trans rfl rfl
theorem c_Points_firstSlot_34 : c_Points_firstSlot[34]? = some (48, 1, .l2i, 0, 0, 0, 0, 0, []) := Eq.trans rfl rfl
theorem c_Points_firstSlot_35 : c_Points_firstSlot[35]? = some (49, 1, .ireturn, 0, 0, 0, 0, 0, []) := Eq.trans rfl rfl
theorem mt_Points_isSame : am_MT[86]? = some m_Points_isSame := rfl
theorem c_Points_isSame_0 : c_Points_isSame[0]? = some (0, 1, .aload_n 0, 0, 0, 0, 0, 0, []) := Eq.trans rfl rfl
theorem c_Points_isSame_1 : c_Points_isSame[1]? = some (1, 3, .getfield 15, 6, 1, 0, 0, 263, []) := Eq.trans rfl rfl
theorem c_Points_isSame_2 : c_Points_isSame[2]? = some (4, 1, .iload_n 1, 1, 0, 0, 0, 0, []) := Eq.trans rfl rfl
theorem c_Points_isSame_3 : c_Points_isSame[3]? = some (5, 1, .laload, 0, 0, 0, 0, 0, []) := Eq.trans rfl rfl
theorem c_Points_isSame_4 : c_Points_isSame[4]? = some (6, 1, .aload_n 0, 0, 0, 0, 0, 0, []) := Eq.trans rfl rfl
theorem c_Points_isSame_5 : c_Points_isSame[5]? = some (7, 3, .getfield 15, 6, 1, 0, 0, 263, []) := Eq.trans rfl rfl
theorem c_Points_isSame_6 : c_Points_isSame[6]? = some (10, 1, .iload_n 2, 2, 0, 0, 0, 0, []) := Eq.trans rfl rfl
theorem c_Points_isSame_7 : c_Points_isSame[7]? = some (11, 1, .laload, 0, 0, 0, 0, 0, []) := Eq.trans rfl rfl
theorem c_Points_isSame_8 : c_Points_isSame[8]? = some (12, 1, .lcmp, 0, 0, 0, 0, 0, []) := Eq.trans rfl rfl
theorem c_Points_isSame_9 : c_Points_isSame[9]? = some (13, 3, .ifCond .ne 47, 40, 0, 0, 0, 0, []) := Eq.trans rfl rfl
theorem c_Points_isSame_10 : c_Points_isSame[10]? = some (16, 1, .aload_n 0, 0, 0, 0, 0, 0, []) := Eq.trans rfl rfl
theorem c_Points_isSame_11 : c_Points_isSame[11]? = some (17, 3, .getfield 15, 6, 1, 0, 0, 263, []) := Eq.trans rfl rfl
theorem c_Points_isSame_12 : c_Points_isSame[12]? = some (20, 1, .iload_n 1, 1, 0, 0, 0, 0, []) := Eq.trans rfl rfl
theorem c_Points_isSame_13 : c_Points_isSame[13]? = some (21, 1, .iconst 1, 0, 0, 0, 0, 0, []) := Eq.trans rfl rfl
theorem c_Points_isSame_14 : c_Points_isSame[14]? = some (22, 1, .iadd, 0, 0, 0, 0, 0, []) := Eq.trans rfl rfl
theorem c_Points_isSame_15 : c_Points_isSame[15]? = some (23, 1, .laload, 0, 0, 0, 0, 0, []) := Eq.trans rfl rfl
theorem c_Points_isSame_16 : c_Points_isSame[16]? = some (24, 1, .aload_n 0, 0, 0, 0, 0, 0, []) := Eq.trans rfl rfl
theorem c_Points_isSame_17 : c_Points_isSame[17]? = some (25, 3, .getfield 15, 6, 1, 0, 0, 263, []) := Eq.trans rfl rfl
theorem c_Points_isSame_18 : c_Points_isSame[18]? = some (28, 1, .iload_n 2, 2, 0, 0, 0, 0, []) := Eq.trans rfl rfl
theorem c_Points_isSame_19 : c_Points_isSame[19]? = some (29, 1, .iconst 1, 0, 0, 0, 0, 0, []) := Eq.trans rfl rfl
theorem c_Points_isSame_20 : c_Points_isSame[20]? = some (30, 1, .iadd, 0, 0, 0, 0, 0, []) := Eq.trans rfl rfl
theorem c_Points_isSame_21 : c_Points_isSame[21]? = some (31, 1, .laload, 0, 0, 0, 0, 0, []) := Eq.trans rfl rfl
theorem c_Points_isSame_22 : c_Points_isSame[22]? = some (32, 1, .lcmp, 0, 0, 0, 0, 0, []) := Eq.trans rfl rfl
theorem c_Points_isSame_23 : c_Points_isSame[23]? = some (33, 3, .ifCond .ne 27, 40, 0, 0, 0, 0, []) := Eq.trans rfl rfl
theorem c_Points_isSame_24 : c_Points_isSame[24]? = some (36, 1, .aload_n 0, 0, 0, 0, 0, 0, []) := Eq.trans rfl rfl
theorem c_Points_isSame_25 : c_Points_isSame[25]? = some (37, 3, .getfield 15, 6, 1, 0, 0, 263, []) := Eq.trans rfl rfl
theorem c_Points_isSame_26 : c_Points_isSame[26]? = some (40, 1, .iload_n 1, 1, 0, 0, 0, 0, []) := Eq.trans rfl rfl
theorem c_Points_isSame_27 : c_Points_isSame[27]? = some (41, 1, .iconst 2, 0, 0, 0, 0, 0, []) := Eq.trans rfl rfl
theorem c_Points_isSame_28 : c_Points_isSame[28]? = some (42, 1, .iadd, 0, 0, 0, 0, 0, []) := Eq.trans rfl rfl
theorem c_Points_isSame_29 : c_Points_isSame[29]? = some (43, 1, .laload, 0, 0, 0, 0, 0, []) := Eq.trans rfl rfl
theorem c_Points_isSame_30 : c_Points_isSame[30]? = some (44, 1, .aload_n 0, 0, 0, 0, 0, 0, []) := Eq.trans rfl rfl
theorem c_Points_isSame_31 : c_Points_isSame[31]? = some (45, 3, .getfield 15, 6, 1, 0, 0, 263, []) := Eq.trans rfl rfl
theorem c_Points_isSame_32 : c_Points_isSame[32]? = some (48, 1, .iload_n 2, 2, 0, 0, 0, 0, []) := Eq.trans rfl rfl
theorem c_Points_isSame_33 : c_Points_isSame[33]? = some (49, 1, .iconst 2, 0, 0, 0, 0, 0, []) := Eq.trans rfl rfl
theorem c_Points_isSame_34 : c_Points_isSame[34]? = some (50, 1, .iadd, 0, 0, 0, 0, 0, []) := Eq.trans rfl rfl
theorem c_Points_isSame_35 : c_Points_isSame[35]? = some (51, 1, .laload, 0, 0, 0, 0, 0, []) := Eq.trans rfl rfl
theorem c_Points_isSame_36 : c_Points_isSame[36]? = some (52, 1, .lcmp, 0, 0, 0, 0, 0, []) := Eq.trans rfl rfl
theorem c_Points_isSame_37 : c_Points_isSame[37]? = some (53, 3, .ifCond .ne 7, 40, 0, 0, 0, 0, []) := Eq.trans rfl rfl
theorem c_Points_isSame_38 : c_Points_isSame[38]? = some (56, 1, .iconst 1, 0, 0, 0, 0, 0, []) := Eq.trans rfl rfl
theorem c_Points_isSame_39 : c_Points_isSame[39]? = some (57, 3, .goto 4, 41, 0, 0, 0, 0, []) := Eq.trans rfl rfl
theorem c_Points_isSame_40 : c_Points_isSame[40]? = some (60, 1, .iconst 0, 0, 0, 0, 0, 0, []) := Eq.trans rfl rfl
theorem c_Points_isSame_41 : c_Points_isSame[41]? = some (61, 1, .ireturn, 0, 0, 0, 3, 0, []) := Eq.trans rfl rfl
theorem bz_t {a : Int} (h1 : 0 ≤ a) (h2 : a < 9223372036854775808) : (bz a).toInt = a := by
  show (BitVec.ofNat 64 a.toNat).toInt = a
  rw [BitVec.toInt_ofNat']
  rw [Int.bmod_eq_of_le (by omega) (by omega)]
  omega
theorem lz_eq0 {a b : Int} (h1 : 0 ≤ a) (h2 : a < 9223372036854775808) (h3 : 0 ≤ b) (h4 : b < 9223372036854775808) : (lg_cmp (bz a) (bz b) = 0) = (a = b) := by
  unfold lg_cmp
  simp only [gt_iff_lt, Int64.lt_iff_toInt_lt, ← Int64.toInt_inj, bz_t h1 h2, bz_t h3 h4]
  apply propext
  by_cases c1 : b < a
  · rw [if_pos c1]
    exact ⟨fun z => absurd z (by decide), fun z => by omega⟩
  · rw [if_neg c1]
    by_cases c2 : a = b
    · rw [if_pos c2]
      exact ⟨fun _ => c2, fun _ => rfl⟩
    · rw [if_neg c2]
      exact ⟨fun z => absurd z (by decide), fun z => absurd z c2⟩
theorem lz_lt0 {a b : Int} (h1 : 0 ≤ a) (h2 : a < 9223372036854775808) (h3 : 0 ≤ b) (h4 : b < 9223372036854775808) : (lg_cmp (bz a) (bz b) < 0) = (a < b) := by
  unfold lg_cmp
  simp only [gt_iff_lt, Int64.lt_iff_toInt_lt, ← Int64.toInt_inj, bz_t h1 h2, bz_t h3 h4]
  apply propext
  by_cases c1 : b < a
  · rw [if_pos c1]
    exact ⟨fun z => absurd z (by decide), fun z => by omega⟩
  · rw [if_neg c1]
    by_cases c2 : a = b
    · rw [if_pos c2]
      exact ⟨fun z => absurd z (by decide), fun z => by omega⟩
    · rw [if_neg c2]
      exact ⟨fun _ => by omega, fun _ => by decide⟩
theorem lz_0le {a b : Int} (h1 : 0 ≤ a) (h2 : a < 9223372036854775808) (h3 : 0 ≤ b) (h4 : b < 9223372036854775808) : (0 ≤ lg_cmp (bz a) (bz b)) = (b ≤ a) := by
  unfold lg_cmp
  simp only [gt_iff_lt, Int64.lt_iff_toInt_lt, ← Int64.toInt_inj, bz_t h1 h2, bz_t h3 h4]
  apply propext
  by_cases c1 : b < a
  · rw [if_pos c1]
    exact ⟨fun _ => by omega, fun _ => by decide⟩
  · rw [if_neg c1]
    by_cases c2 : a = b
    · rw [if_pos c2]
      exact ⟨fun _ => by omega, fun _ => by decide⟩
    · rw [if_neg c2]
      exact ⟨fun z => absurd z (by decide), fun z => by omega⟩
theorem bz_ush {z : Int} {k : Nat} (hk : k < 64) (h1 : 0 ≤ z) (h2 : z < 9223372036854775808) : ((bz z).toUInt64 >>> ((iI (k : Int)).toInt64.toUInt64 &&& Int64.toUInt64 63)).toInt64 = bz (z / 2 ^ k) := by
  have e1 : (z / 2 ^ k).toNat = z.toNat / 2 ^ k := by
    have : ((z.toNat / 2 ^ k : Nat) : Int) = z / 2 ^ k := by
      rw [Int.natCast_ediv, Int.natCast_pow, show ((z.toNat : Nat) : Int) = z by omega]
      rfl
    rw [← this, Int.toNat_natCast]
  unfold bz
  rw [e1]
  exact bL_ush (by omega) hk
theorem bz_u0 {z : Int} (h1 : 0 ≤ z) (h2 : z < 9223372036854775808) : ((bz z).toUInt64 >>> ((iI 0).toInt64.toUInt64 &&& Int64.toUInt64 63)).toInt64 = bz (z / 1) := bz_ush (k := 0) (by decide) h1 h2
theorem bz_u16 {z : Int} (h1 : 0 ≤ z) (h2 : z < 9223372036854775808) : ((bz z).toUInt64 >>> ((iI 16).toInt64.toUInt64 &&& Int64.toUInt64 63)).toInt64 = bz (z / 65536) := bz_ush (k := 16) (by decide) h1 h2
theorem bz_u32 {z : Int} (h1 : 0 ≤ z) (h2 : z < 9223372036854775808) : ((bz z).toUInt64 >>> ((iI 32).toInt64.toUInt64 &&& Int64.toUInt64 63)).toInt64 = bz (z / 4294967296) := bz_ush (k := 32) (by decide) h1 h2
theorem bz_u48 {z : Int} (h1 : 0 ≤ z) (h2 : z < 9223372036854775808) : ((bz z).toUInt64 >>> ((iI 48).toInt64.toUInt64 &&& Int64.toUInt64 63)).toInt64 = bz (z / 281474976710656) := bz_ush (k := 48) (by decide) h1 h2
theorem bJ_mod (n : Nat) : bJ n = bJ (n % 4294967296) := by
  apply J_ext
  rw [bJ_v, bJ_v, BitVec.toNat_ofNat, BitVec.toNat_ofNat]
  omega
theorem jz_lo {z : Int} (h1 : 0 ≤ z) : iI z &&& iI ((65535 : Nat) : Int) = iI (z % 65536) := by
  have e1 : iI z = bJ (z.toNat % 4294967296) := by
    rw [← bJ_mod]
    unfold bJ
    rw [show ((z.toNat : Nat) : Int) = z by omega]
    rfl
  have e2 := bJ_and (z := z.toNat % 4294967296) (k := 16) (by omega) (by decide)
  have e3 : bJ (2 ^ 16 - 1) = iI ((65535 : Nat) : Int) := rfl
  rw [e1, ← e3, e2]
  unfold bJ
  rw [show ((z.toNat % 4294967296 % 2 ^ 16 : Nat) : Int) = z % 65536 by omega]
  rfl
theorem jz_lo' {z : Int} (h1 : 0 ≤ z) : iI z &&& iI 65535 = iI (z % 65536) := jz_lo h1
theorem sl4_rg {G : Int → Int} (hG : ∀ i, 0 ≤ G i ∧ G i ≤ 3000) (j : Int) : 0 ≤ sl4 G j ∧ sl4 G j < 1152921504606846976 := by
  have a0 := hG (4 * j)
  have a1 := hG (4 * j + 1)
  have a2 := hG (4 * j + 2)
  have a3 := hG (4 * j + 3)
  unfold sl4
  omega
theorem sl4_0 {G : Int → Int} (hG : ∀ i, 0 ≤ G i ∧ G i ≤ 3000) (j : Int) : sl4 G j / 1 % 65536 = G (4 * j) := by
  have a0 := hG (4 * j)
  have a1 := hG (4 * j + 1)
  have a2 := hG (4 * j + 2)
  have a3 := hG (4 * j + 3)
  unfold sl4
  omega
theorem sl4_1 {G : Int → Int} (hG : ∀ i, 0 ≤ G i ∧ G i ≤ 3000) (j : Int) : sl4 G j / 65536 % 65536 = G (4 * j + 1) := by
  have a0 := hG (4 * j)
  have a1 := hG (4 * j + 1)
  have a2 := hG (4 * j + 2)
  have a3 := hG (4 * j + 3)
  unfold sl4
  omega
theorem sl4_2 {G : Int → Int} (hG : ∀ i, 0 ≤ G i ∧ G i ≤ 3000) (j : Int) : sl4 G j / 4294967296 % 65536 = G (4 * j + 2) := by
  have a0 := hG (4 * j)
  have a1 := hG (4 * j + 1)
  have a2 := hG (4 * j + 2)
  have a3 := hG (4 * j + 3)
  unfold sl4
  omega
theorem sl4_3 {G : Int → Int} (hG : ∀ i, 0 ≤ G i ∧ G i ≤ 3000) (j : Int) : sl4 G j / 281474976710656 % 65536 = G (4 * j + 3) := by
  have a0 := hG (4 * j)
  have a1 := hG (4 * j + 1)
  have a2 := hG (4 * j + 2)
  have a3 := hG (4 * j + 3)
  unfold sl4
  omega
set_option maxHeartbeats 8000000 in
theorem ct_slotAt (d : Nat) (hd : 1 ≤ d) (h : am_H) (u : Nat) (c : Int) (L G : Int → Int) (H : po_at h u c L G) (hG : ∀ i, 0 ≤ G i ∧ G i ≤ 3000) (i : Int) (hi : 0 ≤ i ∧ i < 4096) : am_Ct am_df am_MT d 85 [.ref u, .int (iI i)] h (fun r0 h' => r0 = some (.int (iI (G i))) ∧ h' = h) := by
  obtain ⟨h0, hO, hL, hS⟩ := H
  have ci : i - i / 4 * 4 = 0 ∨ i - i / 4 * 4 = 1 ∨ i - i / 4 * 4 = 2 ∨ i - i / 4 * 4 = 3 := by omega
  have hj : 0 ≤ i / 4 ∧ i / 4 < 1024 := by omega
  generalize ej : i / 4 = j at *
  have b := sl4_rg hG j
  obtain ⟨d, rfl⟩ : ∃ e, d = e + 1 := ⟨d - 1, by omega⟩
  refine am_ct_of2 mt_Points_slotAt (Nat.le_of_ble_eq_true rfl) ?_
  simp only [ar_nil, ar_int, ar_ref, ar_long, Nat.reduceAdd]
  rcases ci with e | e | e | e
  · have f : sl4 G j / 1 % 65536 = G i := (sl4_0 hG j).trans (by rw [show 4 * j = i by omega])
    refine am_go_of 30 [] _ c_Points_slotAt_0 ?_
    simp (maxSteps := 2000000) (disch := omega) only [c_Points_slotAt_0, c_Points_slotAt_1, c_Points_slotAt_2, c_Points_slotAt_3, c_Points_slotAt_4, c_Points_slotAt_5, c_Points_slotAt_6, c_Points_slotAt_7, c_Points_slotAt_8, c_Points_slotAt_9, c_Points_slotAt_10, c_Points_slotAt_11, c_Points_slotAt_12, c_Points_slotAt_13, c_Points_slotAt_14, c_Points_slotAt_15, c_Points_slotAt_16, c_Points_slotAt_17, sx_aload_n, sx_bipush, sx_getfield, sx_iand, sx_iconst, sx_idiv, sx_iload_n, sx_imul, sx_irem, sx_ireturn, sx_l2i, sx_laload, sx_ldc, sx_lload_n, sx_lstore_n, sx_lushr, sx_zreturn, am_W_s, am_W_0, am_mm_some, List.mem_cons, or_false, false_or, or_self, or_true, true_or, reduceIte, if_false, if_true, am_o_some, am_o_none, am_o_bad, am_o_good, am_ldi_hit, am_ldi_miss, am_lda_hit, am_lda_miss, am_ldl_hit, am_ldl_miss, am_inc_eq, am_inc_hit, am_inc_miss, am_ob_hit, am_fd_0, am_fd_s, am_ai_hit, am_ab_3, am_al_hit, am_aq_4, am_al0_hit, am_put_1, am_put_2, am_put_put, am_up_hit, am_up_miss, am_s1_eq, am_s2_eq, am_fl_nil, am_fl_hit, am_fl_int, am_fl_ref, am_fl_long, am_fl_longx, am_fl2_nil, am_fl2_hit, am_fl2_hit1, am_fl2_int, am_fl2_ref, am_fl2_long, List.not_mem_nil, not_false_eq_true, ne_eq, Nat.reduceAdd, Nat.reduceEqDiff, Nat.zero_add, Nat.add_left_cancel_iff, List.set_cons_zero, List.set_cons_succ, List.length_cons, List.length_nil, Nat.reduceLT, am_ft_i, am_ft_r, am_ft_z, and_true, true_and, Option.toList_some, Option.toList_none, List.cons_append, List.nil_append, List.drop_succ_cons, List.drop_zero, iI_c, iI_b, iI_s, iI_n, iI_add, iI_sub, iI_mul, iI_neg, iI_nle, iI_ix, iI_eq0, iI_eq1, iI_lt0, iI_0lt, iI_le0, iI_0le, iI_eq, iI_lt, iI_le, iI_upd, iI_updZ, Int.reduceEq, Int.reduceLT, Int.reduceLE, Int.reduceNeg, Int.reduceNe, hO, hS, iI_div, ej, e, Int.reduceMul, bz_u0, bz_l2i, jz_lo, jz_lo', f, po_fs_len, po_f0, po_f1, po_f2, po_s0, rw_hit]
    repeat (refine And.intro (by omega) ?_)
    all_goals (first | omega | rfl | trivial)
  · have f : sl4 G j / 65536 % 65536 = G i := (sl4_1 hG j).trans (by rw [show 4 * j + 1 = i by omega])
    refine am_go_of 30 [] _ c_Points_slotAt_0 ?_
    simp (maxSteps := 2000000) (disch := omega) only [c_Points_slotAt_0, c_Points_slotAt_1, c_Points_slotAt_2, c_Points_slotAt_3, c_Points_slotAt_4, c_Points_slotAt_5, c_Points_slotAt_6, c_Points_slotAt_7, c_Points_slotAt_8, c_Points_slotAt_9, c_Points_slotAt_10, c_Points_slotAt_11, c_Points_slotAt_12, c_Points_slotAt_13, c_Points_slotAt_14, c_Points_slotAt_15, c_Points_slotAt_16, c_Points_slotAt_17, sx_aload_n, sx_bipush, sx_getfield, sx_iand, sx_iconst, sx_idiv, sx_iload_n, sx_imul, sx_irem, sx_ireturn, sx_l2i, sx_laload, sx_ldc, sx_lload_n, sx_lstore_n, sx_lushr, sx_zreturn, am_W_s, am_W_0, am_mm_some, List.mem_cons, or_false, false_or, or_self, or_true, true_or, reduceIte, if_false, if_true, am_o_some, am_o_none, am_o_bad, am_o_good, am_ldi_hit, am_ldi_miss, am_lda_hit, am_lda_miss, am_ldl_hit, am_ldl_miss, am_inc_eq, am_inc_hit, am_inc_miss, am_ob_hit, am_fd_0, am_fd_s, am_ai_hit, am_ab_3, am_al_hit, am_aq_4, am_al0_hit, am_put_1, am_put_2, am_put_put, am_up_hit, am_up_miss, am_s1_eq, am_s2_eq, am_fl_nil, am_fl_hit, am_fl_int, am_fl_ref, am_fl_long, am_fl_longx, am_fl2_nil, am_fl2_hit, am_fl2_hit1, am_fl2_int, am_fl2_ref, am_fl2_long, List.not_mem_nil, not_false_eq_true, ne_eq, Nat.reduceAdd, Nat.reduceEqDiff, Nat.zero_add, Nat.add_left_cancel_iff, List.set_cons_zero, List.set_cons_succ, List.length_cons, List.length_nil, Nat.reduceLT, am_ft_i, am_ft_r, am_ft_z, and_true, true_and, Option.toList_some, Option.toList_none, List.cons_append, List.nil_append, List.drop_succ_cons, List.drop_zero, iI_c, iI_b, iI_s, iI_n, iI_add, iI_sub, iI_mul, iI_neg, iI_nle, iI_ix, iI_eq0, iI_eq1, iI_lt0, iI_0lt, iI_le0, iI_0le, iI_eq, iI_lt, iI_le, iI_upd, iI_updZ, Int.reduceEq, Int.reduceLT, Int.reduceLE, Int.reduceNeg, Int.reduceNe, hO, hS, iI_div, ej, e, Int.reduceMul, bz_u16, bz_l2i, jz_lo, jz_lo', f, po_fs_len, po_f0, po_f1, po_f2, po_s0, rw_hit]
    repeat (refine And.intro (by omega) ?_)
    all_goals (first | omega | rfl | trivial)
  · have f : sl4 G j / 4294967296 % 65536 = G i := (sl4_2 hG j).trans (by rw [show 4 * j + 2 = i by omega])
    refine am_go_of 30 [] _ c_Points_slotAt_0 ?_
    simp (maxSteps := 2000000) (disch := omega) only [c_Points_slotAt_0, c_Points_slotAt_1, c_Points_slotAt_2, c_Points_slotAt_3, c_Points_slotAt_4, c_Points_slotAt_5, c_Points_slotAt_6, c_Points_slotAt_7, c_Points_slotAt_8, c_Points_slotAt_9, c_Points_slotAt_10, c_Points_slotAt_11, c_Points_slotAt_12, c_Points_slotAt_13, c_Points_slotAt_14, c_Points_slotAt_15, c_Points_slotAt_16, c_Points_slotAt_17, sx_aload_n, sx_bipush, sx_getfield, sx_iand, sx_iconst, sx_idiv, sx_iload_n, sx_imul, sx_irem, sx_ireturn, sx_l2i, sx_laload, sx_ldc, sx_lload_n, sx_lstore_n, sx_lushr, sx_zreturn, am_W_s, am_W_0, am_mm_some, List.mem_cons, or_false, false_or, or_self, or_true, true_or, reduceIte, if_false, if_true, am_o_some, am_o_none, am_o_bad, am_o_good, am_ldi_hit, am_ldi_miss, am_lda_hit, am_lda_miss, am_ldl_hit, am_ldl_miss, am_inc_eq, am_inc_hit, am_inc_miss, am_ob_hit, am_fd_0, am_fd_s, am_ai_hit, am_ab_3, am_al_hit, am_aq_4, am_al0_hit, am_put_1, am_put_2, am_put_put, am_up_hit, am_up_miss, am_s1_eq, am_s2_eq, am_fl_nil, am_fl_hit, am_fl_int, am_fl_ref, am_fl_long, am_fl_longx, am_fl2_nil, am_fl2_hit, am_fl2_hit1, am_fl2_int, am_fl2_ref, am_fl2_long, List.not_mem_nil, not_false_eq_true, ne_eq, Nat.reduceAdd, Nat.reduceEqDiff, Nat.zero_add, Nat.add_left_cancel_iff, List.set_cons_zero, List.set_cons_succ, List.length_cons, List.length_nil, Nat.reduceLT, am_ft_i, am_ft_r, am_ft_z, and_true, true_and, Option.toList_some, Option.toList_none, List.cons_append, List.nil_append, List.drop_succ_cons, List.drop_zero, iI_c, iI_b, iI_s, iI_n, iI_add, iI_sub, iI_mul, iI_neg, iI_nle, iI_ix, iI_eq0, iI_eq1, iI_lt0, iI_0lt, iI_le0, iI_0le, iI_eq, iI_lt, iI_le, iI_upd, iI_updZ, Int.reduceEq, Int.reduceLT, Int.reduceLE, Int.reduceNeg, Int.reduceNe, hO, hS, iI_div, ej, e, Int.reduceMul, bz_u32, bz_l2i, jz_lo, jz_lo', f, po_fs_len, po_f0, po_f1, po_f2, po_s0, rw_hit]
    repeat (refine And.intro (by omega) ?_)
    all_goals (first | omega | rfl | trivial)
  · have f : sl4 G j / 281474976710656 % 65536 = G i := (sl4_3 hG j).trans (by rw [show 4 * j + 3 = i by omega])
    refine am_go_of 30 [] _ c_Points_slotAt_0 ?_
    simp (maxSteps := 2000000) (disch := omega) only [c_Points_slotAt_0, c_Points_slotAt_1, c_Points_slotAt_2, c_Points_slotAt_3, c_Points_slotAt_4, c_Points_slotAt_5, c_Points_slotAt_6, c_Points_slotAt_7, c_Points_slotAt_8, c_Points_slotAt_9, c_Points_slotAt_10, c_Points_slotAt_11, c_Points_slotAt_12, c_Points_slotAt_13, c_Points_slotAt_14, c_Points_slotAt_15, c_Points_slotAt_16, c_Points_slotAt_17, sx_aload_n, sx_bipush, sx_getfield, sx_iand, sx_iconst, sx_idiv, sx_iload_n, sx_imul, sx_irem, sx_ireturn, sx_l2i, sx_laload, sx_ldc, sx_lload_n, sx_lstore_n, sx_lushr, sx_zreturn, am_W_s, am_W_0, am_mm_some, List.mem_cons, or_false, false_or, or_self, or_true, true_or, reduceIte, if_false, if_true, am_o_some, am_o_none, am_o_bad, am_o_good, am_ldi_hit, am_ldi_miss, am_lda_hit, am_lda_miss, am_ldl_hit, am_ldl_miss, am_inc_eq, am_inc_hit, am_inc_miss, am_ob_hit, am_fd_0, am_fd_s, am_ai_hit, am_ab_3, am_al_hit, am_aq_4, am_al0_hit, am_put_1, am_put_2, am_put_put, am_up_hit, am_up_miss, am_s1_eq, am_s2_eq, am_fl_nil, am_fl_hit, am_fl_int, am_fl_ref, am_fl_long, am_fl_longx, am_fl2_nil, am_fl2_hit, am_fl2_hit1, am_fl2_int, am_fl2_ref, am_fl2_long, List.not_mem_nil, not_false_eq_true, ne_eq, Nat.reduceAdd, Nat.reduceEqDiff, Nat.zero_add, Nat.add_left_cancel_iff, List.set_cons_zero, List.set_cons_succ, List.length_cons, List.length_nil, Nat.reduceLT, am_ft_i, am_ft_r, am_ft_z, and_true, true_and, Option.toList_some, Option.toList_none, List.cons_append, List.nil_append, List.drop_succ_cons, List.drop_zero, iI_c, iI_b, iI_s, iI_n, iI_add, iI_sub, iI_mul, iI_neg, iI_nle, iI_ix, iI_eq0, iI_eq1, iI_lt0, iI_0lt, iI_le0, iI_0le, iI_eq, iI_lt, iI_le, iI_upd, iI_updZ, Int.reduceEq, Int.reduceLT, Int.reduceLE, Int.reduceNeg, Int.reduceNe, hO, hS, iI_div, ej, e, Int.reduceMul, bz_u48, bz_l2i, jz_lo, jz_lo', f, po_fs_len, po_f0, po_f1, po_f2, po_s0, rw_hit]
    repeat (refine And.intro (by omega) ?_)
    all_goals (first | omega | rfl | trivial)
/-- a number is put where no bit is -/
theorem or_in {hi c lo k : Nat} (hlo : lo < 2 ^ k) (hc : c < 65536) : (hi * 2 ^ (k + 16) + lo) ||| (c * 2 ^ k) = hi * 2 ^ (k + 16) + (c * 2 ^ k + lo) := by
  have p : 2 ^ (k + 16) = 2 ^ k * 65536 := Nat.pow_add 2 k 16
  have q : c * 2 ^ k + lo < 2 ^ (k + 16) := by
    have : c * 2 ^ k ≤ 65535 * 2 ^ k := Nat.mul_le_mul_right _ (by omega)
    omega
  have a := Nat.shiftLeft_add_eq_or_of_lt (show lo < 2 ^ (k + 16) by omega) hi
  have b := Nat.shiftLeft_add_eq_or_of_lt hlo c
  have e := Nat.shiftLeft_add_eq_or_of_lt q hi
  rw [Nat.shiftLeft_eq] at a b e
  rw [e, a, b, Nat.or_assoc, Nat.or_comm lo]
theorem bz_in {z c : Int} {k : Nat} (hk : k ≤ 48) (h1 : 0 ≤ z) (h2 : z < 1152921504606846976) (h3 : z / 2 ^ k % 65536 = 0) (h4 : 0 ≤ c) (h5 : c ≤ 3000) : bz z ||| ((iI c).toInt64 <<< ((iI (k : Int)).toInt64 &&& 63)) = bz (z + c * 2 ^ k) := by
  have e2 : ((2 ^ k : Nat) : Int) = (2 : Int) ^ k := Int.natCast_pow 2 k
  have pk : 2 ^ k ≤ 2 ^ 48 := Nat.pow_le_pow_right (by decide) hk
  have p0 := Nat.two_pow_pos k
  have p : 2 ^ (k + 16) = 2 ^ k * 65536 := Nat.pow_add 2 k 16
  have e4 : (iI c).toInt64 = bL c.toNat := by
    have := bL_i (z := c.toNat) (by omega)
    rw [show ((c.toNat : Nat) : Int) = c by omega] at this
    exact this
  have cb : c.toNat * 2 ^ k ≤ 3000 * 2 ^ 48 := Nat.mul_le_mul (by omega) pk
  have n3 : z.toNat / 2 ^ k % 65536 = 0 := by
    have : ((z.toNat / 2 ^ k % 65536 : Nat) : Int) = z / 2 ^ k % 65536 := by
      rw [Int.natCast_emod, Int.natCast_ediv, Int.natCast_pow, show ((z.toNat : Nat) : Int) = z by omega]
      rfl
    exact Int.natCast_eq_zero.mp (this.trans h3)
  have ez : z.toNat = z.toNat / 2 ^ k / 65536 * 2 ^ (k + 16) + z.toNat % 2 ^ k := by
    have q1 := Nat.div_add_mod z.toNat (2 ^ k)
    have q2 := Nat.div_add_mod (z.toNat / 2 ^ k) 65536
    rw [n3, Nat.add_zero] at q2
    have q3 : z.toNat / 2 ^ k / 65536 * 2 ^ (k + 16) = 2 ^ k * (z.toNat / 2 ^ k) := by
      rw [p]
      generalize z.toNat / 2 ^ k = Y at *
      rw [Nat.mul_comm (2 ^ k) 65536, ← Nat.mul_assoc, Nat.mul_comm (Y / 65536) 65536, q2, Nat.mul_comm]
    rw [q3]
    exact q1.symm
  have e1 : ((c.toNat * 2 ^ k : Nat) : Int) = c * 2 ^ k := by
    rw [Int.natCast_mul, Int.natCast_pow, show ((c.toNat : Nat) : Int) = c by omega]
    rfl
  rw [bz_sh (by omega), e4]
  unfold bz
  rw [bL_shl (by omega) (by omega)]
  have o := or_in (hi := z.toNat / 2 ^ k / 65536) (c := c.toNat) (lo := z.toNat % 2 ^ k) (k := k) (Nat.mod_lt _ p0) (by omega)
  have e5 : (z + c * 2 ^ k).toNat = z.toNat + c.toNat * 2 ^ k := by
    rw [← e1]
    generalize c.toNat * 2 ^ k = P
    omega
  rw [e5]
  apply L_ext
  rw [Int64.toBitVec_or, BitVec.toNat_or, bL_n (by omega), bL_n (by omega), bL_n (by omega)]
  rw [← ez] at o
  rw [o]
  generalize z.toNat / 2 ^ k / 65536 * 2 ^ (k + 16) = U at *
  generalize z.toNat % 2 ^ k = V at *
  generalize c.toNat * 2 ^ k = W at *
  omega
theorem bz_i0 {z c : Int} (h1 : 0 ≤ z) (h2 : z < 1152921504606846976) (h3 : z / 1 % 65536 = 0) (h4 : 0 ≤ c) (h5 : c ≤ 3000) : bz z ||| ((iI c).toInt64 <<< ((iI 0).toInt64 &&& 63)) = bz (z + c * 1) := bz_in (k := 0) (by decide) h1 h2 h3 h4 h5
theorem bz_i16 {z c : Int} (h1 : 0 ≤ z) (h2 : z < 1152921504606846976) (h3 : z / 65536 % 65536 = 0) (h4 : 0 ≤ c) (h5 : c ≤ 3000) : bz z ||| ((iI c).toInt64 <<< ((iI 16).toInt64 &&& 63)) = bz (z + c * 65536) := bz_in (k := 16) (by decide) h1 h2 h3 h4 h5
theorem bz_i32 {z c : Int} (h1 : 0 ≤ z) (h2 : z < 1152921504606846976) (h3 : z / 4294967296 % 65536 = 0) (h4 : 0 ≤ c) (h5 : c ≤ 3000) : bz z ||| ((iI c).toInt64 <<< ((iI 32).toInt64 &&& 63)) = bz (z + c * 4294967296) := bz_in (k := 32) (by decide) h1 h2 h3 h4 h5
theorem bz_i48 {z c : Int} (h1 : 0 ≤ z) (h2 : z < 1152921504606846976) (h3 : z / 281474976710656 % 65536 = 0) (h4 : 0 ≤ c) (h5 : c ≤ 3000) : bz z ||| ((iI c).toInt64 <<< ((iI 48).toInt64 &&& 63)) = bz (z + c * 281474976710656) := bz_in (k := 48) (by decide) h1 h2 h3 h4 h5
theorem sl4_no {G : Int → Int} {i c y : Int} (h : y ≠ i / 4) : sl4 (vI G i c) y = sl4 G y := by
  unfold sl4
  rw [vI_miss (show 4 * y ≠ i by omega), vI_miss (show 4 * y + 1 ≠ i by omega), vI_miss (show 4 * y + 2 ≠ i by omega), vI_miss (show 4 * y + 3 ≠ i by omega)]
theorem sl4_u {G : Int → Int} {i c v : Int} (hv : sl4 (vI G i c) (i / 4) = v) : vI (sl4 G) (i / 4) v = sl4 (vI G i c) := by
  funext y
  by_cases e : y = i / 4
  · rw [e, vI_hit, hv]
  · rw [vI_miss e, sl4_no e]
theorem sl4_v {G : Int → Int} {j c : Int} : (G (4 * j) = 0 → sl4 (vI G (4 * j) c) j = sl4 G j + c * 1) ∧ (G (4 * j + 1) = 0 → sl4 (vI G (4 * j + 1) c) j = sl4 G j + c * 65536) ∧ (G (4 * j + 2) = 0 → sl4 (vI G (4 * j + 2) c) j = sl4 G j + c * 4294967296) ∧ (G (4 * j + 3) = 0 → sl4 (vI G (4 * j + 3) c) j = sl4 G j + c * 281474976710656) := by
  refine ⟨fun z => ?_, fun z => ?_, fun z => ?_, fun z => ?_⟩
  · unfold sl4
    rw [vI_hit, vI_miss (show 4 * j + 1 ≠ 4 * j by omega), vI_miss (show 4 * j + 2 ≠ 4 * j by omega), vI_miss (show 4 * j + 3 ≠ 4 * j by omega), z]
    omega
  · unfold sl4
    rw [vI_hit, vI_miss (show 4 * j ≠ 4 * j + 1 by omega), vI_miss (show 4 * j + 2 ≠ 4 * j + 1 by omega), vI_miss (show 4 * j + 3 ≠ 4 * j + 1 by omega), z]
    omega
  · unfold sl4
    rw [vI_hit, vI_miss (show 4 * j ≠ 4 * j + 2 by omega), vI_miss (show 4 * j + 1 ≠ 4 * j + 2 by omega), vI_miss (show 4 * j + 3 ≠ 4 * j + 2 by omega), z]
    omega
  · unfold sl4
    rw [vI_hit, vI_miss (show 4 * j ≠ 4 * j + 3 by omega), vI_miss (show 4 * j + 1 ≠ 4 * j + 3 by omega), vI_miss (show 4 * j + 2 ≠ 4 * j + 3 by omega), z]
    omega
set_option maxHeartbeats 8000000 in
theorem ct_fillSlot (d : Nat) (hd : 1 ≤ d) (h : am_H) (u : Nat) (c : Int) (L G : Int → Int) (H : po_at h u c L G) (hG : ∀ i, 0 ≤ G i ∧ G i ≤ 3000) (i v : Int) (hi : 0 ≤ i ∧ i < 4096) (h00 : G i = 0) (hv : 0 ≤ v ∧ v ≤ 3000) : am_Ct am_df am_MT d 87 [.ref u, .int (iI i), .int (iI v)] h (fun r0 h' => r0 = none ∧ h' = am_put h (u + 2) (.inl (1, 1024, .inr (.inl (fun j : Nat => bz (sl4 (vI G i v) j)))))) := by
  obtain ⟨h0, hO, hL, hS⟩ := H
  have ci : i - i / 4 * 4 = 0 ∨ i - i / 4 * 4 = 1 ∨ i - i / 4 * 4 = 2 ∨ i - i / 4 * 4 = 3 := by omega
  have hj : 0 ≤ i / 4 ∧ i / 4 < 1024 := by omega
  have su := sl4_u (G := G) (i := i) (c := v) rfl
  rw [← su]
  clear su
  generalize ej : i / 4 = j at *
  have b := sl4_rg hG j
  have sv := sl4_v (G := G) (j := j) (c := v)
  obtain ⟨d, rfl⟩ : ∃ e, d = e + 1 := ⟨d - 1, by omega⟩
  refine am_ct_of2 mt_Points_fillSlot (Nat.le_of_ble_eq_true rfl) ?_
  simp only [ar_nil, ar_int, ar_ref, ar_long, Nat.reduceAdd]
  rcases ci with e | e | e | e
  · have ei : 4 * j = i := by omega
    have s := sv.1
    rw [ei] at s
    rw [s h00]
    have f : sl4 G j / 1 % 65536 = 0 := (sl4_0 hG j).trans (by rw [ei, h00])
    refine am_go_of 30 [] _ c_Points_fillSlot_0 ?_
    simp (maxSteps := 2000000) (disch := omega) only [c_Points_fillSlot_0, c_Points_fillSlot_1, c_Points_fillSlot_2, c_Points_fillSlot_3, c_Points_fillSlot_4, c_Points_fillSlot_5, c_Points_fillSlot_6, c_Points_fillSlot_7, c_Points_fillSlot_8, c_Points_fillSlot_9, c_Points_fillSlot_10, c_Points_fillSlot_11, c_Points_fillSlot_12, c_Points_fillSlot_13, c_Points_fillSlot_14, c_Points_fillSlot_15, c_Points_fillSlot_16, c_Points_fillSlot_17, sx_aload_n, sx_bipush, sx_dup2_ir, sx_getfield, sx_i2l, sx_iconst, sx_idiv, sx_iload_n, sx_imul, sx_irem, sx_laload, sx_lastore, sx_lor, sx_lshl, sx_return, am_W_s, am_W_0, am_mm_some, List.mem_cons, or_false, false_or, or_self, or_true, true_or, reduceIte, if_false, if_true, am_o_some, am_o_none, am_o_bad, am_o_good, am_ldi_hit, am_ldi_miss, am_lda_hit, am_lda_miss, am_ldl_hit, am_ldl_miss, am_inc_eq, am_inc_hit, am_inc_miss, am_ob_hit, am_fd_0, am_fd_s, am_ai_hit, am_ab_3, am_al_hit, am_aq_4, am_al0_hit, am_put_1, am_put_2, am_put_put, am_up_hit, am_up_miss, am_s1_eq, am_s2_eq, am_fl_nil, am_fl_hit, am_fl_int, am_fl_ref, am_fl_long, am_fl_longx, am_fl2_nil, am_fl2_hit, am_fl2_hit1, am_fl2_int, am_fl2_ref, am_fl2_long, List.not_mem_nil, not_false_eq_true, ne_eq, Nat.reduceAdd, Nat.reduceEqDiff, Nat.zero_add, Nat.add_left_cancel_iff, List.set_cons_zero, List.set_cons_succ, List.length_cons, List.length_nil, Nat.reduceLT, am_ft_i, am_ft_r, am_ft_z, and_true, true_and, Option.toList_some, Option.toList_none, List.cons_append, List.nil_append, List.drop_succ_cons, List.drop_zero, iI_c, iI_b, iI_s, iI_n, iI_add, iI_sub, iI_mul, iI_neg, iI_nle, iI_ix, iI_eq0, iI_eq1, iI_lt0, iI_0lt, iI_le0, iI_0le, iI_eq, iI_lt, iI_le, iI_upd, iI_updZ, Int.reduceEq, Int.reduceLT, Int.reduceLE, Int.reduceNeg, Int.reduceNe, hO, hS, iI_div, ej, e, Int.reduceMul, bz_i0, bz_upd, po_fs_len, po_f0, po_f1, po_f2, po_s0, rw_hit]
    repeat (refine And.intro (by omega) ?_)
    all_goals (first | omega | rfl | trivial)
  · have ei : 4 * j + 1 = i := by omega
    have s := sv.2.1
    rw [ei] at s
    rw [s h00]
    have f : sl4 G j / 65536 % 65536 = 0 := (sl4_1 hG j).trans (by rw [ei, h00])
    refine am_go_of 30 [] _ c_Points_fillSlot_0 ?_
    simp (maxSteps := 2000000) (disch := omega) only [c_Points_fillSlot_0, c_Points_fillSlot_1, c_Points_fillSlot_2, c_Points_fillSlot_3, c_Points_fillSlot_4, c_Points_fillSlot_5, c_Points_fillSlot_6, c_Points_fillSlot_7, c_Points_fillSlot_8, c_Points_fillSlot_9, c_Points_fillSlot_10, c_Points_fillSlot_11, c_Points_fillSlot_12, c_Points_fillSlot_13, c_Points_fillSlot_14, c_Points_fillSlot_15, c_Points_fillSlot_16, c_Points_fillSlot_17, sx_aload_n, sx_bipush, sx_dup2_ir, sx_getfield, sx_i2l, sx_iconst, sx_idiv, sx_iload_n, sx_imul, sx_irem, sx_laload, sx_lastore, sx_lor, sx_lshl, sx_return, am_W_s, am_W_0, am_mm_some, List.mem_cons, or_false, false_or, or_self, or_true, true_or, reduceIte, if_false, if_true, am_o_some, am_o_none, am_o_bad, am_o_good, am_ldi_hit, am_ldi_miss, am_lda_hit, am_lda_miss, am_ldl_hit, am_ldl_miss, am_inc_eq, am_inc_hit, am_inc_miss, am_ob_hit, am_fd_0, am_fd_s, am_ai_hit, am_ab_3, am_al_hit, am_aq_4, am_al0_hit, am_put_1, am_put_2, am_put_put, am_up_hit, am_up_miss, am_s1_eq, am_s2_eq, am_fl_nil, am_fl_hit, am_fl_int, am_fl_ref, am_fl_long, am_fl_longx, am_fl2_nil, am_fl2_hit, am_fl2_hit1, am_fl2_int, am_fl2_ref, am_fl2_long, List.not_mem_nil, not_false_eq_true, ne_eq, Nat.reduceAdd, Nat.reduceEqDiff, Nat.zero_add, Nat.add_left_cancel_iff, List.set_cons_zero, List.set_cons_succ, List.length_cons, List.length_nil, Nat.reduceLT, am_ft_i, am_ft_r, am_ft_z, and_true, true_and, Option.toList_some, Option.toList_none, List.cons_append, List.nil_append, List.drop_succ_cons, List.drop_zero, iI_c, iI_b, iI_s, iI_n, iI_add, iI_sub, iI_mul, iI_neg, iI_nle, iI_ix, iI_eq0, iI_eq1, iI_lt0, iI_0lt, iI_le0, iI_0le, iI_eq, iI_lt, iI_le, iI_upd, iI_updZ, Int.reduceEq, Int.reduceLT, Int.reduceLE, Int.reduceNeg, Int.reduceNe, hO, hS, iI_div, ej, e, Int.reduceMul, bz_i16, bz_upd, po_fs_len, po_f0, po_f1, po_f2, po_s0, rw_hit]
    repeat (refine And.intro (by omega) ?_)
    all_goals (first | omega | rfl | trivial)
  · have ei : 4 * j + 2 = i := by omega
    have s := sv.2.2.1
    rw [ei] at s
    rw [s h00]
    have f : sl4 G j / 4294967296 % 65536 = 0 := (sl4_2 hG j).trans (by rw [ei, h00])
    refine am_go_of 30 [] _ c_Points_fillSlot_0 ?_
    simp (maxSteps := 2000000) (disch := omega) only [c_Points_fillSlot_0, c_Points_fillSlot_1, c_Points_fillSlot_2, c_Points_fillSlot_3, c_Points_fillSlot_4, c_Points_fillSlot_5, c_Points_fillSlot_6, c_Points_fillSlot_7, c_Points_fillSlot_8, c_Points_fillSlot_9, c_Points_fillSlot_10, c_Points_fillSlot_11, c_Points_fillSlot_12, c_Points_fillSlot_13, c_Points_fillSlot_14, c_Points_fillSlot_15, c_Points_fillSlot_16, c_Points_fillSlot_17, sx_aload_n, sx_bipush, sx_dup2_ir, sx_getfield, sx_i2l, sx_iconst, sx_idiv, sx_iload_n, sx_imul, sx_irem, sx_laload, sx_lastore, sx_lor, sx_lshl, sx_return, am_W_s, am_W_0, am_mm_some, List.mem_cons, or_false, false_or, or_self, or_true, true_or, reduceIte, if_false, if_true, am_o_some, am_o_none, am_o_bad, am_o_good, am_ldi_hit, am_ldi_miss, am_lda_hit, am_lda_miss, am_ldl_hit, am_ldl_miss, am_inc_eq, am_inc_hit, am_inc_miss, am_ob_hit, am_fd_0, am_fd_s, am_ai_hit, am_ab_3, am_al_hit, am_aq_4, am_al0_hit, am_put_1, am_put_2, am_put_put, am_up_hit, am_up_miss, am_s1_eq, am_s2_eq, am_fl_nil, am_fl_hit, am_fl_int, am_fl_ref, am_fl_long, am_fl_longx, am_fl2_nil, am_fl2_hit, am_fl2_hit1, am_fl2_int, am_fl2_ref, am_fl2_long, List.not_mem_nil, not_false_eq_true, ne_eq, Nat.reduceAdd, Nat.reduceEqDiff, Nat.zero_add, Nat.add_left_cancel_iff, List.set_cons_zero, List.set_cons_succ, List.length_cons, List.length_nil, Nat.reduceLT, am_ft_i, am_ft_r, am_ft_z, and_true, true_and, Option.toList_some, Option.toList_none, List.cons_append, List.nil_append, List.drop_succ_cons, List.drop_zero, iI_c, iI_b, iI_s, iI_n, iI_add, iI_sub, iI_mul, iI_neg, iI_nle, iI_ix, iI_eq0, iI_eq1, iI_lt0, iI_0lt, iI_le0, iI_0le, iI_eq, iI_lt, iI_le, iI_upd, iI_updZ, Int.reduceEq, Int.reduceLT, Int.reduceLE, Int.reduceNeg, Int.reduceNe, hO, hS, iI_div, ej, e, Int.reduceMul, bz_i32, bz_upd, po_fs_len, po_f0, po_f1, po_f2, po_s0, rw_hit]
    repeat (refine And.intro (by omega) ?_)
    all_goals (first | omega | rfl | trivial)
  · have ei : 4 * j + 3 = i := by omega
    have s := sv.2.2.2
    rw [ei] at s
    rw [s h00]
    have f : sl4 G j / 281474976710656 % 65536 = 0 := (sl4_3 hG j).trans (by rw [ei, h00])
    refine am_go_of 30 [] _ c_Points_fillSlot_0 ?_
    simp (maxSteps := 2000000) (disch := omega) only [c_Points_fillSlot_0, c_Points_fillSlot_1, c_Points_fillSlot_2, c_Points_fillSlot_3, c_Points_fillSlot_4, c_Points_fillSlot_5, c_Points_fillSlot_6, c_Points_fillSlot_7, c_Points_fillSlot_8, c_Points_fillSlot_9, c_Points_fillSlot_10, c_Points_fillSlot_11, c_Points_fillSlot_12, c_Points_fillSlot_13, c_Points_fillSlot_14, c_Points_fillSlot_15, c_Points_fillSlot_16, c_Points_fillSlot_17, sx_aload_n, sx_bipush, sx_dup2_ir, sx_getfield, sx_i2l, sx_iconst, sx_idiv, sx_iload_n, sx_imul, sx_irem, sx_laload, sx_lastore, sx_lor, sx_lshl, sx_return, am_W_s, am_W_0, am_mm_some, List.mem_cons, or_false, false_or, or_self, or_true, true_or, reduceIte, if_false, if_true, am_o_some, am_o_none, am_o_bad, am_o_good, am_ldi_hit, am_ldi_miss, am_lda_hit, am_lda_miss, am_ldl_hit, am_ldl_miss, am_inc_eq, am_inc_hit, am_inc_miss, am_ob_hit, am_fd_0, am_fd_s, am_ai_hit, am_ab_3, am_al_hit, am_aq_4, am_al0_hit, am_put_1, am_put_2, am_put_put, am_up_hit, am_up_miss, am_s1_eq, am_s2_eq, am_fl_nil, am_fl_hit, am_fl_int, am_fl_ref, am_fl_long, am_fl_longx, am_fl2_nil, am_fl2_hit, am_fl2_hit1, am_fl2_int, am_fl2_ref, am_fl2_long, List.not_mem_nil, not_false_eq_true, ne_eq, Nat.reduceAdd, Nat.reduceEqDiff, Nat.zero_add, Nat.add_left_cancel_iff, List.set_cons_zero, List.set_cons_succ, List.length_cons, List.length_nil, Nat.reduceLT, am_ft_i, am_ft_r, am_ft_z, and_true, true_and, Option.toList_some, Option.toList_none, List.cons_append, List.nil_append, List.drop_succ_cons, List.drop_zero, iI_c, iI_b, iI_s, iI_n, iI_add, iI_sub, iI_mul, iI_neg, iI_nle, iI_ix, iI_eq0, iI_eq1, iI_lt0, iI_0lt, iI_le0, iI_0le, iI_eq, iI_lt, iI_le, iI_upd, iI_updZ, Int.reduceEq, Int.reduceLT, Int.reduceLE, Int.reduceNeg, Int.reduceNe, hO, hS, iI_div, ej, e, Int.reduceMul, bz_i48, bz_upd, po_fs_len, po_f0, po_f1, po_f2, po_s0, rw_hit]
    repeat (refine And.intro (by omega) ?_)
    all_goals (first | omega | rfl | trivial)
def fs0 (x y z : Int64) : Int64 := (x * Int64.ofNat 31 + y) * Int64.ofNat 31 + z
def fs1 (m : Int64) : Int64 := m ^^^ (m.toUInt64 >>> ((iI 32).toInt64.toUInt64 &&& Int64.toUInt64 63)).toInt64
def fs2 (m : Int64) : Int32 := ((m.toUInt64 >>> ((iI 52).toInt64.toUInt64 &&& Int64.toUInt64 63)).toInt64).toInt32
def fsl (x y z : Int) : Int := (fs2 (fs1 (fs0 (bz x) (bz y) (bz z)) * Int64.ofNat 11400714819323198485)).toInt
theorem bL_all (x : Int64) : x = bL x.toBitVec.toNat := L_ext (by rw [bL_n x.toBitVec.isLt])
theorem fs2_rg (m : Int64) : 0 ≤ (fs2 m).toInt ∧ (fs2 m).toInt ≤ 4095 := by
  have hm := m.toBitVec.isLt
  have e : fs2 m = iI ((m.toBitVec.toNat / 2 ^ 52 : Nat) : Int) := by
    unfold fs2
    rw [bL_all m, bL_n hm]
    have e1 := bL_ush (z := m.toBitVec.toNat) (k := 52) hm (by decide)
    have e2 : (iI 52) = Int32.ofInt ((52 : Nat) : Int) := rfl
    rw [e2, e1, bL_l2i]
    rfl
  rw [e, iI_t (by omega) (by omega)]
  omega
theorem fsl_rg (x y z : Int) : 0 ≤ fsl x y z ∧ fsl x y z ≤ 4095 := fs2_rg _
set_option maxHeartbeats 8000000 in
theorem ct_firstSlot (d : Nat) (hd : 1 ≤ d) (h : am_H) (u : Nat) (c : Int) (L G : Int → Int) (H : po_at h u c L G) (a : Int) (ha : 0 ≤ a ∧ a + 3 ≤ 9003) : am_Ct am_df am_MT d 84 [.ref u, .int (iI a)] h (fun r0 h' => r0 = some (.int (iI (fsl (L a) (L (a + 1)) (L (a + 2))))) ∧ h' = h) := by
  obtain ⟨h0, hO, hL, hS⟩ := H
  have e : iI (fsl (L a) (L (a + 1)) (L (a + 2))) = fs2 (fs1 (fs0 (bz (L a)) (bz (L (a + 1))) (bz (L (a + 2)))) * Int64.ofNat 11400714819323198485) := Int32.ofInt_toInt _
  rw [e]
  unfold fs2 fs1 fs0
  generalize h31 : Int64.ofNat 31 = k31
  generalize hk : Int64.ofNat 11400714819323198485 = kk
  obtain ⟨d, rfl⟩ : ∃ e, d = e + 1 := ⟨d - 1, by omega⟩
  refine am_ct_of2 mt_Points_firstSlot (Nat.le_of_ble_eq_true rfl) ?_
  simp only [ar_nil, ar_int, ar_ref, ar_long, Nat.reduceAdd]
  refine am_go_of 50 [] _ c_Points_firstSlot_0 ?_
  simp (maxSteps := 2000000) (disch := omega) only [c_Points_firstSlot_0, c_Points_firstSlot_1, c_Points_firstSlot_2, c_Points_firstSlot_3, c_Points_firstSlot_4, c_Points_firstSlot_5, c_Points_firstSlot_6, c_Points_firstSlot_7, c_Points_firstSlot_8, c_Points_firstSlot_9, c_Points_firstSlot_10, c_Points_firstSlot_11, c_Points_firstSlot_12, c_Points_firstSlot_13, c_Points_firstSlot_14, c_Points_firstSlot_15, c_Points_firstSlot_16, c_Points_firstSlot_17, c_Points_firstSlot_18, c_Points_firstSlot_19, c_Points_firstSlot_20, c_Points_firstSlot_21, c_Points_firstSlot_22, c_Points_firstSlot_23, c_Points_firstSlot_24, c_Points_firstSlot_25, c_Points_firstSlot_26, c_Points_firstSlot_27, c_Points_firstSlot_28, c_Points_firstSlot_29, c_Points_firstSlot_30, c_Points_firstSlot_31, c_Points_firstSlot_32, c_Points_firstSlot_33, c_Points_firstSlot_34, c_Points_firstSlot_35, sx_aload_n, sx_bipush, sx_getfield, sx_iadd, sx_iconst, sx_iload_n, sx_ireturn, sx_l2i, sx_ladd, sx_laload, sx_ldc2_w, sx_lload_n, sx_lmul, sx_lstore_n, sx_lushr, sx_lxor, sx_zreturn, am_W_s, am_W_0, am_mm_some, List.mem_cons, or_false, false_or, or_self, or_true, true_or, reduceIte, if_false, if_true, am_o_some, am_o_none, am_o_bad, am_o_good, am_ldi_hit, am_ldi_miss, am_lda_hit, am_lda_miss, am_ldl_hit, am_ldl_miss, am_inc_eq, am_inc_hit, am_inc_miss, am_ob_hit, am_fd_0, am_fd_s, am_ai_hit, am_ab_3, am_al_hit, am_aq_4, am_al0_hit, am_put_1, am_put_2, am_put_put, am_up_hit, am_up_miss, am_s1_eq, am_s2_eq, am_fl_nil, am_fl_hit, am_fl_int, am_fl_ref, am_fl_long, am_fl_longx, am_fl2_nil, am_fl2_hit, am_fl2_hit1, am_fl2_int, am_fl2_ref, am_fl2_long, List.not_mem_nil, not_false_eq_true, ne_eq, Nat.reduceAdd, Nat.reduceEqDiff, Nat.zero_add, Nat.add_left_cancel_iff, List.set_cons_zero, List.set_cons_succ, List.length_cons, List.length_nil, Nat.reduceLT, am_ft_i, am_ft_r, am_ft_z, and_true, true_and, Option.toList_some, Option.toList_none, List.cons_append, List.nil_append, List.drop_succ_cons, List.drop_zero, iI_c, iI_b, iI_s, iI_n, iI_add, iI_sub, iI_mul, iI_neg, iI_nle, iI_ix, iI_eq0, iI_eq1, iI_lt0, iI_0lt, iI_le0, iI_0le, iI_eq, iI_lt, iI_le, iI_upd, iI_updZ, Int.reduceEq, Int.reduceLT, Int.reduceLE, Int.reduceNeg, Int.reduceNe, hO, hL, hk, h31, po_fs_len, po_f0, po_f1, po_f2, po_s0, rw_hit]
  repeat (refine And.intro (by omega) ?_)
  all_goals (first | omega | rfl | trivial)
set_option maxHeartbeats 8000000 in
theorem ct_isSame (d : Nat) (hd : 1 ≤ d) (h : am_H) (u : Nat) (c : Int) (L G : Int → Int) (H : po_at h u c L G) (hL : ∀ j, 0 ≤ L j ∧ L j < 9223372036854775808) (a b : Int) (ha : 0 ≤ a ∧ a + 3 ≤ 9003) (hb : 0 ≤ b ∧ b + 3 ≤ 9003) : am_Ct am_df am_MT d 86 [.ref u, .int (iI a), .int (iI b)] h (fun r0 h' => r0 = some (.int (iI (if L a = L b ∧ L (a + 1) = L (b + 1) ∧ L (a + 2) = L (b + 2) then 1 else 0))) ∧ h' = h) := by
  obtain ⟨h0, hO, hR, hS⟩ := H
  have x0 := hL a
  have x1 := hL (a + 1)
  have x2 := hL (a + 2)
  have y0 := hL b
  have y1 := hL (b + 1)
  have y2 := hL (b + 2)
  clear hL
  obtain ⟨d, rfl⟩ : ∃ e, d = e + 1 := ⟨d - 1, by omega⟩
  refine am_ct_of2 mt_Points_isSame (Nat.le_of_ble_eq_true rfl) ?_
  simp only [ar_nil, ar_int, ar_ref, ar_long, Nat.reduceAdd]
  by_cases c0 : L a = L b
  · by_cases c1 : L (a + 1) = L (b + 1)
    · by_cases c2 : L (a + 2) = L (b + 2)
      · rw [if_pos ⟨c0, c1, c2⟩]
        refine am_go_of 60 [] _ c_Points_isSame_0 ?_
        simp (maxSteps := 2000000) (disch := omega) only [c_Points_isSame_0, c_Points_isSame_1, c_Points_isSame_2, c_Points_isSame_3, c_Points_isSame_4, c_Points_isSame_5, c_Points_isSame_6, c_Points_isSame_7, c_Points_isSame_8, c_Points_isSame_9, c_Points_isSame_10, c_Points_isSame_11, c_Points_isSame_12, c_Points_isSame_13, c_Points_isSame_14, c_Points_isSame_15, c_Points_isSame_16, c_Points_isSame_17, c_Points_isSame_18, c_Points_isSame_19, c_Points_isSame_20, c_Points_isSame_21, c_Points_isSame_22, c_Points_isSame_23, c_Points_isSame_24, c_Points_isSame_25, c_Points_isSame_26, c_Points_isSame_27, c_Points_isSame_28, c_Points_isSame_29, c_Points_isSame_30, c_Points_isSame_31, c_Points_isSame_32, c_Points_isSame_33, c_Points_isSame_34, c_Points_isSame_35, c_Points_isSame_36, c_Points_isSame_37, c_Points_isSame_38, c_Points_isSame_39, c_Points_isSame_40, c_Points_isSame_41, sx_aload_n, sx_getfield, sx_goto, sx_iadd, sx_iconst, sx_ifCond_ne, sx_iload_n, sx_ireturn, sx_laload, sx_lcmp, sx_zreturn, am_W_s, am_W_0, am_mm_some, List.mem_cons, or_false, false_or, or_self, or_true, true_or, reduceIte, if_false, if_true, am_o_some, am_o_none, am_o_bad, am_o_good, am_ldi_hit, am_ldi_miss, am_lda_hit, am_lda_miss, am_ldl_hit, am_ldl_miss, am_inc_eq, am_inc_hit, am_inc_miss, am_ob_hit, am_fd_0, am_fd_s, am_ai_hit, am_ab_3, am_al_hit, am_aq_4, am_al0_hit, am_put_1, am_put_2, am_put_put, am_up_hit, am_up_miss, am_s1_eq, am_s2_eq, am_fl_nil, am_fl_hit, am_fl_int, am_fl_ref, am_fl_long, am_fl_longx, am_fl2_nil, am_fl2_hit, am_fl2_hit1, am_fl2_int, am_fl2_ref, am_fl2_long, List.not_mem_nil, not_false_eq_true, ne_eq, Nat.reduceAdd, Nat.reduceEqDiff, Nat.zero_add, Nat.add_left_cancel_iff, List.set_cons_zero, List.set_cons_succ, List.length_cons, List.length_nil, Nat.reduceLT, am_ft_i, am_ft_r, am_ft_z, and_true, true_and, Option.toList_some, Option.toList_none, List.cons_append, List.nil_append, List.drop_succ_cons, List.drop_zero, iI_c, iI_b, iI_s, iI_n, iI_add, iI_sub, iI_mul, iI_neg, iI_nle, iI_ix, iI_eq0, iI_eq1, iI_lt0, iI_0lt, iI_le0, iI_0le, iI_eq, iI_lt, iI_le, iI_upd, iI_updZ, Int.reduceEq, Int.reduceLT, Int.reduceLE, Int.reduceNeg, Int.reduceNe, hO, hR, lz_eq0, c0, c1, c2, po_fs_len, po_f0, po_f1, po_f2, po_s0, rw_hit]
        repeat (refine And.intro (by omega) ?_)
        all_goals (first | omega | rfl | trivial)
      · rw [if_neg (fun z => c2 z.2.2)]
        refine am_go_of 60 [] _ c_Points_isSame_0 ?_
        simp (maxSteps := 2000000) (disch := omega) only [c_Points_isSame_0, c_Points_isSame_1, c_Points_isSame_2, c_Points_isSame_3, c_Points_isSame_4, c_Points_isSame_5, c_Points_isSame_6, c_Points_isSame_7, c_Points_isSame_8, c_Points_isSame_9, c_Points_isSame_10, c_Points_isSame_11, c_Points_isSame_12, c_Points_isSame_13, c_Points_isSame_14, c_Points_isSame_15, c_Points_isSame_16, c_Points_isSame_17, c_Points_isSame_18, c_Points_isSame_19, c_Points_isSame_20, c_Points_isSame_21, c_Points_isSame_22, c_Points_isSame_23, c_Points_isSame_24, c_Points_isSame_25, c_Points_isSame_26, c_Points_isSame_27, c_Points_isSame_28, c_Points_isSame_29, c_Points_isSame_30, c_Points_isSame_31, c_Points_isSame_32, c_Points_isSame_33, c_Points_isSame_34, c_Points_isSame_35, c_Points_isSame_36, c_Points_isSame_37, c_Points_isSame_38, c_Points_isSame_39, c_Points_isSame_40, c_Points_isSame_41, sx_aload_n, sx_getfield, sx_goto, sx_iadd, sx_iconst, sx_ifCond_ne, sx_iload_n, sx_ireturn, sx_laload, sx_lcmp, sx_zreturn, am_W_s, am_W_0, am_mm_some, List.mem_cons, or_false, false_or, or_self, or_true, true_or, reduceIte, if_false, if_true, am_o_some, am_o_none, am_o_bad, am_o_good, am_ldi_hit, am_ldi_miss, am_lda_hit, am_lda_miss, am_ldl_hit, am_ldl_miss, am_inc_eq, am_inc_hit, am_inc_miss, am_ob_hit, am_fd_0, am_fd_s, am_ai_hit, am_ab_3, am_al_hit, am_aq_4, am_al0_hit, am_put_1, am_put_2, am_put_put, am_up_hit, am_up_miss, am_s1_eq, am_s2_eq, am_fl_nil, am_fl_hit, am_fl_int, am_fl_ref, am_fl_long, am_fl_longx, am_fl2_nil, am_fl2_hit, am_fl2_hit1, am_fl2_int, am_fl2_ref, am_fl2_long, List.not_mem_nil, not_false_eq_true, ne_eq, Nat.reduceAdd, Nat.reduceEqDiff, Nat.zero_add, Nat.add_left_cancel_iff, List.set_cons_zero, List.set_cons_succ, List.length_cons, List.length_nil, Nat.reduceLT, am_ft_i, am_ft_r, am_ft_z, and_true, true_and, Option.toList_some, Option.toList_none, List.cons_append, List.nil_append, List.drop_succ_cons, List.drop_zero, iI_c, iI_b, iI_s, iI_n, iI_add, iI_sub, iI_mul, iI_neg, iI_nle, iI_ix, iI_eq0, iI_eq1, iI_lt0, iI_0lt, iI_le0, iI_0le, iI_eq, iI_lt, iI_le, iI_upd, iI_updZ, Int.reduceEq, Int.reduceLT, Int.reduceLE, Int.reduceNeg, Int.reduceNe, hO, hR, lz_eq0, c0, c1, c2, po_fs_len, po_f0, po_f1, po_f2, po_s0, rw_hit]
        repeat (refine And.intro (by omega) ?_)
        all_goals (first | omega | rfl | trivial)
    · rw [if_neg (fun z => c1 z.2.1)]
      refine am_go_of 60 [] _ c_Points_isSame_0 ?_
      simp (maxSteps := 2000000) (disch := omega) only [c_Points_isSame_0, c_Points_isSame_1, c_Points_isSame_2, c_Points_isSame_3, c_Points_isSame_4, c_Points_isSame_5, c_Points_isSame_6, c_Points_isSame_7, c_Points_isSame_8, c_Points_isSame_9, c_Points_isSame_10, c_Points_isSame_11, c_Points_isSame_12, c_Points_isSame_13, c_Points_isSame_14, c_Points_isSame_15, c_Points_isSame_16, c_Points_isSame_17, c_Points_isSame_18, c_Points_isSame_19, c_Points_isSame_20, c_Points_isSame_21, c_Points_isSame_22, c_Points_isSame_23, c_Points_isSame_24, c_Points_isSame_25, c_Points_isSame_26, c_Points_isSame_27, c_Points_isSame_28, c_Points_isSame_29, c_Points_isSame_30, c_Points_isSame_31, c_Points_isSame_32, c_Points_isSame_33, c_Points_isSame_34, c_Points_isSame_35, c_Points_isSame_36, c_Points_isSame_37, c_Points_isSame_38, c_Points_isSame_39, c_Points_isSame_40, c_Points_isSame_41, sx_aload_n, sx_getfield, sx_goto, sx_iadd, sx_iconst, sx_ifCond_ne, sx_iload_n, sx_ireturn, sx_laload, sx_lcmp, sx_zreturn, am_W_s, am_W_0, am_mm_some, List.mem_cons, or_false, false_or, or_self, or_true, true_or, reduceIte, if_false, if_true, am_o_some, am_o_none, am_o_bad, am_o_good, am_ldi_hit, am_ldi_miss, am_lda_hit, am_lda_miss, am_ldl_hit, am_ldl_miss, am_inc_eq, am_inc_hit, am_inc_miss, am_ob_hit, am_fd_0, am_fd_s, am_ai_hit, am_ab_3, am_al_hit, am_aq_4, am_al0_hit, am_put_1, am_put_2, am_put_put, am_up_hit, am_up_miss, am_s1_eq, am_s2_eq, am_fl_nil, am_fl_hit, am_fl_int, am_fl_ref, am_fl_long, am_fl_longx, am_fl2_nil, am_fl2_hit, am_fl2_hit1, am_fl2_int, am_fl2_ref, am_fl2_long, List.not_mem_nil, not_false_eq_true, ne_eq, Nat.reduceAdd, Nat.reduceEqDiff, Nat.zero_add, Nat.add_left_cancel_iff, List.set_cons_zero, List.set_cons_succ, List.length_cons, List.length_nil, Nat.reduceLT, am_ft_i, am_ft_r, am_ft_z, and_true, true_and, Option.toList_some, Option.toList_none, List.cons_append, List.nil_append, List.drop_succ_cons, List.drop_zero, iI_c, iI_b, iI_s, iI_n, iI_add, iI_sub, iI_mul, iI_neg, iI_nle, iI_ix, iI_eq0, iI_eq1, iI_lt0, iI_0lt, iI_le0, iI_0le, iI_eq, iI_lt, iI_le, iI_upd, iI_updZ, Int.reduceEq, Int.reduceLT, Int.reduceLE, Int.reduceNeg, Int.reduceNe, hO, hR, lz_eq0, c0, c1, po_fs_len, po_f0, po_f1, po_f2, po_s0, rw_hit]
      repeat (refine And.intro (by omega) ?_)
      all_goals (first | omega | rfl | trivial)
  · rw [if_neg (fun z => c0 z.1)]
    refine am_go_of 60 [] _ c_Points_isSame_0 ?_
    simp (maxSteps := 2000000) (disch := omega) only [c_Points_isSame_0, c_Points_isSame_1, c_Points_isSame_2, c_Points_isSame_3, c_Points_isSame_4, c_Points_isSame_5, c_Points_isSame_6, c_Points_isSame_7, c_Points_isSame_8, c_Points_isSame_9, c_Points_isSame_10, c_Points_isSame_11, c_Points_isSame_12, c_Points_isSame_13, c_Points_isSame_14, c_Points_isSame_15, c_Points_isSame_16, c_Points_isSame_17, c_Points_isSame_18, c_Points_isSame_19, c_Points_isSame_20, c_Points_isSame_21, c_Points_isSame_22, c_Points_isSame_23, c_Points_isSame_24, c_Points_isSame_25, c_Points_isSame_26, c_Points_isSame_27, c_Points_isSame_28, c_Points_isSame_29, c_Points_isSame_30, c_Points_isSame_31, c_Points_isSame_32, c_Points_isSame_33, c_Points_isSame_34, c_Points_isSame_35, c_Points_isSame_36, c_Points_isSame_37, c_Points_isSame_38, c_Points_isSame_39, c_Points_isSame_40, c_Points_isSame_41, sx_aload_n, sx_getfield, sx_goto, sx_iadd, sx_iconst, sx_ifCond_ne, sx_iload_n, sx_ireturn, sx_laload, sx_lcmp, sx_zreturn, am_W_s, am_W_0, am_mm_some, List.mem_cons, or_false, false_or, or_self, or_true, true_or, reduceIte, if_false, if_true, am_o_some, am_o_none, am_o_bad, am_o_good, am_ldi_hit, am_ldi_miss, am_lda_hit, am_lda_miss, am_ldl_hit, am_ldl_miss, am_inc_eq, am_inc_hit, am_inc_miss, am_ob_hit, am_fd_0, am_fd_s, am_ai_hit, am_ab_3, am_al_hit, am_aq_4, am_al0_hit, am_put_1, am_put_2, am_put_put, am_up_hit, am_up_miss, am_s1_eq, am_s2_eq, am_fl_nil, am_fl_hit, am_fl_int, am_fl_ref, am_fl_long, am_fl_longx, am_fl2_nil, am_fl2_hit, am_fl2_hit1, am_fl2_int, am_fl2_ref, am_fl2_long, List.not_mem_nil, not_false_eq_true, ne_eq, Nat.reduceAdd, Nat.reduceEqDiff, Nat.zero_add, Nat.add_left_cancel_iff, List.set_cons_zero, List.set_cons_succ, List.length_cons, List.length_nil, Nat.reduceLT, am_ft_i, am_ft_r, am_ft_z, and_true, true_and, Option.toList_some, Option.toList_none, List.cons_append, List.nil_append, List.drop_succ_cons, List.drop_zero, iI_c, iI_b, iI_s, iI_n, iI_add, iI_sub, iI_mul, iI_neg, iI_nle, iI_ix, iI_eq0, iI_eq1, iI_lt0, iI_0lt, iI_le0, iI_0le, iI_eq, iI_lt, iI_le, iI_upd, iI_updZ, Int.reduceEq, Int.reduceLT, Int.reduceLE, Int.reduceNeg, Int.reduceNe, hO, hR, lz_eq0, c0, po_fs_len, po_f0, po_f1, po_f2, po_s0, rw_hit]
    repeat (refine And.intro (by omega) ?_)
    all_goals (first | omega | rfl | trivial)
