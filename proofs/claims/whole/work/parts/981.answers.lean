theorem mt_Outcomes_numberAt : am_MT[98]? = some m_Outcomes_numberAt := rfl
theorem c_Outcomes_numberAt_0 : c_Outcomes_numberAt[0]? = some (0, 1, .iload_n 1, 1, 0, 0, 0, 0, []) := Eq.trans rfl rfl
theorem c_Outcomes_numberAt_1 : c_Outcomes_numberAt[1]? = some (1, 3, .ifCond .lt 21, 11, 0, 0, 0, 0, []) := Eq.trans rfl rfl
theorem c_Outcomes_numberAt_2 : c_Outcomes_numberAt[2]? = some (4, 1, .iload_n 1, 1, 0, 0, 0, 0, []) := Eq.trans rfl rfl
theorem c_Outcomes_numberAt_3 : c_Outcomes_numberAt[3]? = some (5, 1, .aload_n 0, 0, 0, 0, 0, 0, []) := Eq.trans rfl rfl
theorem c_Outcomes_numberAt_4 : c_Outcomes_numberAt[4]? = some (6, 3, .getfield 11, 7, 0, 0, 0, 280, []) := Eq.trans rfl rfl
theorem c_Outcomes_numberAt_5 : c_Outcomes_numberAt[5]? = some (9, 3, .if_icmp .ge 13, 11, 0, 0, 0, 0, []) := Eq.trans rfl rfl
theorem c_Outcomes_numberAt_6 : c_Outcomes_numberAt[6]? = some (12, 1, .iload_n 2, 2, 0, 0, 0, 0, []) := Eq.trans rfl rfl
theorem c_Outcomes_numberAt_7 : c_Outcomes_numberAt[7]? = some (13, 3, .ifCond .lt 9, 11, 0, 0, 0, 0, []) := Eq.trans rfl rfl
theorem c_Outcomes_numberAt_8 : c_Outcomes_numberAt[8]? = some (16, 1, .iload_n 2, 2, 0, 0, 0, 0, []) := Eq.trans rfl rfl
theorem c_Outcomes_numberAt_9 : c_Outcomes_numberAt[9]? = some (17, 2, .bipush 15, 0, 0, 0, 0, 0, []) := Eq.trans rfl rfl
theorem c_Outcomes_numberAt_10 : c_Outcomes_numberAt[10]? = some (19, 3, .if_icmp .lt 7, 13, 0, 0, 0, 0, []) := Eq.trans rfl rfl
theorem c_Outcomes_numberAt_11 : c_Outcomes_numberAt[11]? = some (22, 3, .sipush (-1000), 0, 0, 0, 0, 0, []) := Eq.trans rfl rfl
theorem c_Outcomes_numberAt_12 : c_Outcomes_numberAt[12]? = some (25, 1, .ireturn, 0, 0, 0, 0, 0, []) := Eq.trans rfl rfl
theorem c_Outcomes_numberAt_13 : c_Outcomes_numberAt[13]? = some (26, 2, .bipush 30, 0, 0, 0, 0, 0, []) := Eq.trans rfl rfl
theorem c_Outcomes_numberAt_14 : c_Outcomes_numberAt[14]? = some (28, 1, .istore_n 3, 3, 0, 0, 0, 0, []) := Eq.trans rfl rfl
theorem c_Outcomes_numberAt_15 : c_Outcomes_numberAt[15]? = some (29, 1, .iload_n 2, 2, 0, 0, 0, 0, []) := Eq.trans rfl rfl
theorem c_Outcomes_numberAt_16 : c_Outcomes_numberAt[16]? = some (30, 1, .iconst 3, 0, 0, 0, 0, 0, []) := Eq.trans rfl rfl
theorem c_Outcomes_numberAt_17 : c_Outcomes_numberAt[17]? = some (31, 3, .if_icmp .ge 26, 36, 0, 0, 0, 0, []) := Eq.trans rfl rfl
theorem c_Outcomes_numberAt_18 : c_Outcomes_numberAt[18]? = some (34, 1, .aload_n 0, 0, 0, 0, 0, 0, []) := Eq.trans rfl rfl
theorem c_Outcomes_numberAt_19 : c_Outcomes_numberAt[19]? = some (35, 3, .getfield 15, 7, 1, 0, 0, 282, []) := Eq.trans rfl rfl
theorem c_Outcomes_numberAt_20 : c_Outcomes_numberAt[20]? = some (38, 1, .iload_n 1, 1, 0, 0, 0, 0, []) := Eq.trans rfl rfl
theorem c_Outcomes_numberAt_21 : c_Outcomes_numberAt[21]? = some (39, 1, .laload, 0, 0, 0, 0, 0, []) := Eq.trans rfl rfl
theorem c_Outcomes_numberAt_22 : c_Outcomes_numberAt[22]? = some (40, 1, .iload_n 3, 3, 0, 0, 0, 0, []) := Eq.trans rfl rfl
theorem c_Outcomes_numberAt_23 : c_Outcomes_numberAt[23]? = some (41, 2, .bipush 12, 0, 0, 0, 0, 0, []) := Eq.trans rfl rfl
theorem c_Outcomes_numberAt_24 : c_Outcomes_numberAt[24]? = some (43, 1, .iadd, 0, 0, 0, 0, 0, []) := Eq.trans rfl rfl
theorem c_Outcomes_numberAt_25 : c_Outcomes_numberAt[25]? = some (44, 1, .iconst 3, 0, 0, 0, 0, 0, []) := Eq.trans rfl rfl
theorem c_Outcomes_numberAt_26 : c_Outcomes_numberAt[26]? = some (45, 1, .iconst 2, 0, 0, 0, 0, 0, []) := Eq.trans rfl rfl
theorem c_Outcomes_numberAt_27 : c_Outcomes_numberAt[27]? = some (46, 1, .iload_n 2, 2, 0, 0, 0, 0, []) := Eq.trans rfl rfl
theorem c_Outcomes_numberAt_28 : c_Outcomes_numberAt[28]? = some (47, 1, .isub, 0, 0, 0, 0, 0, []) := Eq.trans rfl rfl
theorem c_Outcomes_numberAt_29 : c_Outcomes_numberAt[29]? = some (48, 1, .imul, 0, 0, 0, 0, 0, []) := Eq.trans rfl rfl
theorem c_Outcomes_numberAt_30 : c_Outcomes_numberAt[30]? = some (49, 1, .iadd, 0, 0, 0, 0, 0, []) := Eq.trans rfl rfl
theorem c_Outcomes_numberAt_31 : c_Outcomes_numberAt[31]? = some (50, 1, .lshr, 0, 0, 0, 0, 0, []) := Eq.trans rfl rfl
theorem c_Outcomes_numberAt_32 : c_Outcomes_numberAt[32]? = some (51, 3, .ldc2_w 47, 7, 0, 0, 0, 721, []) := Eq.trans rfl rfl
theorem c_Outcomes_numberAt_33 : c_Outcomes_numberAt[33]? = some (54, 1, .land, 0, 0, 0, 0, 0, []) := Eq.trans rfl rfl
theorem c_Outcomes_numberAt_34 : c_Outcomes_numberAt[34]? = some (55, 1, .l2i, 0, 0, 0, 0, 0, []) := Eq.trans rfl rfl
theorem c_Outcomes_numberAt_35 : c_Outcomes_numberAt[35]? = some (56, 1, .ireturn, 0, 0, 0, 0, 0, []) := Eq.trans rfl rfl
theorem c_Outcomes_numberAt_36 : c_Outcomes_numberAt[36]? = some (57, 1, .iload_n 2, 2, 0, 0, 0, 0, []) := Eq.trans rfl rfl
theorem c_Outcomes_numberAt_37 : c_Outcomes_numberAt[37]? = some (58, 2, .bipush 9, 0, 0, 0, 0, 0, []) := Eq.trans rfl rfl
theorem c_Outcomes_numberAt_38 : c_Outcomes_numberAt[38]? = some (60, 3, .if_icmp .ge 24, 55, 0, 0, 0, 0, []) := Eq.trans rfl rfl
theorem c_Outcomes_numberAt_39 : c_Outcomes_numberAt[39]? = some (63, 1, .aload_n 0, 0, 0, 0, 0, 0, []) := Eq.trans rfl rfl
theorem c_Outcomes_numberAt_40 : c_Outcomes_numberAt[40]? = some (64, 3, .getfield 15, 7, 1, 0, 0, 282, []) := Eq.trans rfl rfl
theorem c_Outcomes_numberAt_41 : c_Outcomes_numberAt[41]? = some (67, 1, .iload_n 1, 1, 0, 0, 0, 0, []) := Eq.trans rfl rfl
theorem c_Outcomes_numberAt_42 : c_Outcomes_numberAt[42]? = some (68, 1, .laload, 0, 0, 0, 0, 0, []) := Eq.trans rfl rfl
theorem c_Outcomes_numberAt_43 : c_Outcomes_numberAt[43]? = some (69, 1, .iload_n 3, 3, 0, 0, 0, 0, []) := Eq.trans rfl rfl
theorem c_Outcomes_numberAt_44 : c_Outcomes_numberAt[44]? = some (70, 1, .iconst 2, 0, 0, 0, 0, 0, []) := Eq.trans rfl rfl
theorem c_Outcomes_numberAt_45 : c_Outcomes_numberAt[45]? = some (71, 2, .bipush 8, 0, 0, 0, 0, 0, []) := Eq.trans rfl rfl
theorem c_Outcomes_numberAt_46 : c_Outcomes_numberAt[46]? = some (73, 1, .iload_n 2, 2, 0, 0, 0, 0, []) := Eq.trans rfl rfl
theorem c_Outcomes_numberAt_47 : c_Outcomes_numberAt[47]? = some (74, 1, .isub, 0, 0, 0, 0, 0, []) := Eq.trans rfl rfl
theorem c_Outcomes_numberAt_48 : c_Outcomes_numberAt[48]? = some (75, 1, .imul, 0, 0, 0, 0, 0, []) := Eq.trans rfl rfl
theorem c_Outcomes_numberAt_49 : c_Outcomes_numberAt[49]? = some (76, 1, .iadd, 0, 0, 0, 0, 0, []) := Eq.trans rfl rfl
theorem c_Outcomes_numberAt_50 : c_Outcomes_numberAt[50]? = some (77, 1, .lshr, 0, 0, 0, 0, 0, []) := Eq.trans rfl rfl
theorem c_Outcomes_numberAt_51 : c_Outcomes_numberAt[51]? = some (78, 3, .ldc2_w 49, 3, 0, 0, 0, 722, []) := Eq.trans rfl rfl
theorem c_Outcomes_numberAt_52 : c_Outcomes_numberAt[52]? = some (81, 1, .land, 0, 0, 0, 0, 0, []) := Eq.trans rfl rfl
theorem c_Outcomes_numberAt_53 : c_Outcomes_numberAt[53]? = some (82, 1, .l2i, 0, 0, 0, 0, 0, []) := Eq.trans rfl rfl
theorem c_Outcomes_numberAt_54 : c_Outcomes_numberAt[54]? = some (83, 1, .ireturn, 0, 0, 0, 0, 0, []) := Eq.trans rfl rfl
theorem c_Outcomes_numberAt_55 : c_Outcomes_numberAt[55]? = some (84, 1, .aload_n 0, 0, 0, 0, 0, 0, []) := Eq.trans rfl rfl
theorem c_Outcomes_numberAt_56 : c_Outcomes_numberAt[56]? = some (85, 3, .getfield 15, 7, 1, 0, 0, 282, []) := Eq.trans rfl rfl
theorem c_Outcomes_numberAt_57 : c_Outcomes_numberAt[57]? = some (88, 1, .iload_n 1, 1, 0, 0, 0, 0, []) := Eq.trans rfl rfl
theorem c_Outcomes_numberAt_58 : c_Outcomes_numberAt[58]? = some (89, 1, .laload, 0, 0, 0, 0, 0, []) := Eq.trans rfl rfl
theorem c_Outcomes_numberAt_59 : c_Outcomes_numberAt[59]? = some (90, 1, .iconst 5, 0, 0, 0, 0, 0, []) := Eq.trans rfl rfl
theorem c_Outcomes_numberAt_60 : c_Outcomes_numberAt[60]? = some (91, 2, .bipush 14, 0, 0, 0, 0, 0, []) := Eq.trans rfl rfl
theorem c_Outcomes_numberAt_61 : c_Outcomes_numberAt[61]? = some (93, 1, .iload_n 2, 2, 0, 0, 0, 0, []) := Eq.trans rfl rfl
theorem c_Outcomes_numberAt_62 : c_Outcomes_numberAt[62]? = some (94, 1, .isub, 0, 0, 0, 0, 0, []) := Eq.trans rfl rfl
theorem c_Outcomes_numberAt_63 : c_Outcomes_numberAt[63]? = some (95, 1, .imul, 0, 0, 0, 0, 0, []) := Eq.trans rfl rfl
theorem c_Outcomes_numberAt_64 : c_Outcomes_numberAt[64]? = some (96, 1, .lshr, 0, 0, 0, 0, 0, []) := Eq.trans rfl rfl
theorem c_Outcomes_numberAt_65 : c_Outcomes_numberAt[65]? = some (97, 3, .ldc2_w 51, 31, 0, 0, 0, 723, []) := Eq.trans rfl rfl
theorem c_Outcomes_numberAt_66 : c_Outcomes_numberAt[66]? = some (100, 1, .land, 0, 0, 0, 0, 0, []) := Eq.trans rfl rfl
theorem c_Outcomes_numberAt_67 : c_Outcomes_numberAt[67]? = some (101, 1, .l2i, 0, 0, 0, 0, 0, []) := Eq.trans rfl rfl
theorem c_Outcomes_numberAt_68 : c_Outcomes_numberAt[68]? = some (102, 2, .bipush 9, 0, 0, 0, 0, 0, []) := Eq.trans rfl rfl
theorem c_Outcomes_numberAt_69 : c_Outcomes_numberAt[69]? = some (104, 1, .isub, 0, 0, 0, 0, 0, []) := Eq.trans rfl rfl
theorem c_Outcomes_numberAt_70 : c_Outcomes_numberAt[70]? = some (105, 1, .ireturn, 0, 0, 0, 0, 0, []) := Eq.trans rfl rfl
theorem mt_Outcomes_witnessAt : am_MT[101]? = some m_Outcomes_witnessAt := rfl
theorem c_Outcomes_witnessAt_0 : c_Outcomes_witnessAt[0]? = some (0, 1, .iload_n 1, 1, 0, 0, 0, 0, []) := Eq.trans rfl rfl
theorem c_Outcomes_witnessAt_1 : c_Outcomes_witnessAt[1]? = some (1, 3, .ifCond .lt 30, 17, 0, 0, 0, 0, []) := Eq.trans rfl rfl
theorem c_Outcomes_witnessAt_2 : c_Outcomes_witnessAt[2]? = some (4, 1, .iload_n 1, 1, 0, 0, 0, 0, []) := Eq.trans rfl rfl
theorem c_Outcomes_witnessAt_3 : c_Outcomes_witnessAt[3]? = some (5, 1, .aload_n 0, 0, 0, 0, 0, 0, []) := Eq.trans rfl rfl
theorem c_Outcomes_witnessAt_4 : c_Outcomes_witnessAt[4]? = some (6, 3, .getfield 11, 7, 0, 0, 0, 280, []) := Eq.trans rfl rfl
theorem c_Outcomes_witnessAt_5 : c_Outcomes_witnessAt[5]? = some (9, 3, .if_icmp .ge 22, 17, 0, 0, 0, 0, []) := Eq.trans rfl rfl
theorem c_Outcomes_witnessAt_6 : c_Outcomes_witnessAt[6]? = some (12, 1, .iload_n 2, 2, 0, 0, 0, 0, []) := Eq.trans rfl rfl
theorem c_Outcomes_witnessAt_7 : c_Outcomes_witnessAt[7]? = some (13, 3, .ifCond .lt 18, 17, 0, 0, 0, 0, []) := Eq.trans rfl rfl
theorem c_Outcomes_witnessAt_8 : c_Outcomes_witnessAt[8]? = some (16, 1, .iload_n 2, 2, 0, 0, 0, 0, []) := Eq.trans rfl rfl
theorem c_Outcomes_witnessAt_9 : c_Outcomes_witnessAt[9]? = some (17, 1, .aload_n 0, 0, 0, 0, 0, 0, []) := Eq.trans rfl rfl
theorem c_Outcomes_witnessAt_10 : c_Outcomes_witnessAt[10]? = some (18, 3, .getfield 23, 7, 3, 0, 0, 284, []) := Eq.trans rfl rfl
theorem c_Outcomes_witnessAt_11 : c_Outcomes_witnessAt[11]? = some (21, 1, .aload_n 0, 0, 0, 0, 0, 0, []) := Eq.trans rfl rfl
theorem c_Outcomes_witnessAt_12 : c_Outcomes_witnessAt[12]? = some (22, 3, .getfield 19, 7, 2, 0, 0, 283, []) := Eq.trans rfl rfl
theorem c_Outcomes_witnessAt_13 : c_Outcomes_witnessAt[13]? = some (25, 1, .iload_n 1, 1, 0, 0, 0, 0, []) := Eq.trans rfl rfl
theorem c_Outcomes_witnessAt_14 : c_Outcomes_witnessAt[14]? = some (26, 1, .iaload, 0, 0, 0, 0, 0, []) := Eq.trans rfl rfl
theorem c_Outcomes_witnessAt_15 : c_Outcomes_witnessAt[15]? = some (27, 1, .iaload, 0, 0, 0, 0, 0, []) := Eq.trans rfl rfl
theorem c_Outcomes_witnessAt_16 : c_Outcomes_witnessAt[16]? = some (28, 3, .if_icmp .lt 5, 19, 0, 0, 0, 0, []) := Eq.trans rfl rfl
theorem c_Outcomes_witnessAt_17 : c_Outcomes_witnessAt[17]? = some (31, 1, .iconst (-1), 0, 0, 0, 0, 0, []) := Eq.trans rfl rfl
theorem c_Outcomes_witnessAt_18 : c_Outcomes_witnessAt[18]? = some (32, 1, .ireturn, 0, 0, 0, 0, 0, []) := Eq.trans rfl rfl
theorem c_Outcomes_witnessAt_19 : c_Outcomes_witnessAt[19]? = some (33, 1, .aload_n 0, 0, 0, 0, 0, 0, []) := Eq.trans rfl rfl
theorem c_Outcomes_witnessAt_20 : c_Outcomes_witnessAt[20]? = some (34, 3, .getfield 26, 7, 4, 0, 0, 285, []) := Eq.trans rfl rfl
theorem c_Outcomes_witnessAt_21 : c_Outcomes_witnessAt[21]? = some (37, 1, .aload_n 0, 0, 0, 0, 0, 0, []) := Eq.trans rfl rfl
theorem c_Outcomes_witnessAt_22 : c_Outcomes_witnessAt[22]? = some (38, 3, .getfield 19, 7, 2, 0, 0, 283, []) := Eq.trans rfl rfl
theorem c_Outcomes_witnessAt_23 : c_Outcomes_witnessAt[23]? = some (41, 1, .iload_n 1, 1, 0, 0, 0, 0, []) := Eq.trans rfl rfl
theorem c_Outcomes_witnessAt_24 : c_Outcomes_witnessAt[24]? = some (42, 1, .iaload, 0, 0, 0, 0, 0, []) := Eq.trans rfl rfl
theorem c_Outcomes_witnessAt_25 : c_Outcomes_witnessAt[25]? = some (43, 1, .iconst 3, 0, 0, 0, 0, 0, []) := Eq.trans rfl rfl
theorem c_Outcomes_witnessAt_26 : c_Outcomes_witnessAt[26]? = some (44, 1, .imul, 0, 0, 0, 0, 0, []) := Eq.trans rfl rfl
theorem c_Outcomes_witnessAt_27 : c_Outcomes_witnessAt[27]? = some (45, 1, .iload_n 2, 2, 0, 0, 0, 0, []) := Eq.trans rfl rfl
theorem c_Outcomes_witnessAt_28 : c_Outcomes_witnessAt[28]? = some (46, 2, .bipush 32, 0, 0, 0, 0, 0, []) := Eq.trans rfl rfl
theorem c_Outcomes_witnessAt_29 : c_Outcomes_witnessAt[29]? = some (48, 1, .idiv, 0, 0, 0, 0, 0, []) := Eq.trans rfl rfl
theorem c_Outcomes_witnessAt_30 : c_Outcomes_witnessAt[30]? = some (49, 1, .iadd, 0, 0, 0, 0, 0, []) := Eq.trans rfl rfl
theorem c_Outcomes_witnessAt_31 : c_Outcomes_witnessAt[31]? = some (50, 1, .laload, 0, 0, 0, 0, 0, []) := Eq.trans rfl rfl
theorem c_Outcomes_witnessAt_32 : c_Outcomes_witnessAt[32]? = some (51, 1, .lstore_n 3, 3, 0, 0, 0, 0, []) := Eq.trans rfl rfl
theorem c_Outcomes_witnessAt_33 : c_Outcomes_witnessAt[33]? = some (52, 1, .lload_n 3, 3, 0, 0, 0, 0, []) := Eq.trans rfl rfl
theorem c_Outcomes_witnessAt_34 : c_Outcomes_witnessAt[34]? = some (53, 1, .iload_n 2, 2, 0, 0, 0, 0, []) := Eq.trans rfl rfl
theorem c_Outcomes_witnessAt_35 : c_Outcomes_witnessAt[35]? = some (54, 2, .bipush 32, 0, 0, 0, 0, 0, []) := Eq.trans rfl rfl
theorem c_Outcomes_witnessAt_36 : c_Outcomes_witnessAt[36]? = some (56, 1, .irem, 0, 0, 0, 0, 0, []) := Eq.trans rfl rfl
theorem c_Outcomes_witnessAt_37 : c_Outcomes_witnessAt[37]? = some (57, 1, .iconst 2, 0, 0, 0, 0, 0, []) := Eq.trans rfl rfl
theorem c_Outcomes_witnessAt_38 : c_Outcomes_witnessAt[38]? = some (58, 1, .imul, 0, 0, 0, 0, 0, []) := Eq.trans rfl rfl
theorem c_Outcomes_witnessAt_39 : c_Outcomes_witnessAt[39]? = some (59, 1, .lushr, 0, 0, 0, 0, 0, []) := Eq.trans rfl rfl
theorem c_Outcomes_witnessAt_40 : c_Outcomes_witnessAt[40]? = some (60, 1, .l2i, 0, 0, 0, 0, 0, []) := Eq.trans rfl rfl
theorem c_Outcomes_witnessAt_41 : c_Outcomes_witnessAt[41]? = some (61, 1, .iconst 3, 0, 0, 0, 0, 0, []) := Eq.trans rfl rfl
theorem c_Outcomes_witnessAt_42 : c_Outcomes_witnessAt[42]? = some (62, 1, .iand, 0, 0, 0, 0, 0, []) := Eq.trans rfl rfl
theorem c_Outcomes_witnessAt_43 : c_Outcomes_witnessAt[43]? = some (63, 1, .ireturn, 0, 0, 0, 0, 0, []) := Eq.trans rfl rfl
theorem mt_Outcomes_isStuck : am_MT[97]? = some m_Outcomes_isStuck := rfl
theorem c_Outcomes_isStuck_0 : c_Outcomes_isStuck[0]? = some (0, 1, .iconst 0, 0, 0, 0, 0, 0, []) := Eq.trans rfl rfl
theorem c_Outcomes_isStuck_1 : c_Outcomes_isStuck[1]? = some (1, 1, .istore_n 2, 2, 0, 0, 0, 0, []) := Eq.trans rfl rfl
theorem c_Outcomes_isStuck_2 : c_Outcomes_isStuck[2]? = some (2, 1, .iload_n 2, 2, 0, 0, 0, 0, []) := Eq.trans rfl rfl
theorem c_Outcomes_isStuck_3 : c_Outcomes_isStuck[3]? = some (3, 1, .iconst 3, 0, 0, 0, 0, 0, []) := Eq.trans rfl rfl
theorem c_Outcomes_isStuck_4 : c_Outcomes_isStuck[4]? = some (4, 3, .if_icmp .ge 21, 15, 0, 0, 0, 0, []) := Eq.trans rfl rfl
theorem c_Outcomes_isStuck_5 : c_Outcomes_isStuck[5]? = some (7, 1, .aload_n 0, 0, 0, 0, 0, 0, []) := Eq.trans rfl rfl
theorem c_Outcomes_isStuck_6 : c_Outcomes_isStuck[6]? = some (8, 1, .iload_n 1, 1, 0, 0, 0, 0, []) := Eq.trans rfl rfl
theorem c_Outcomes_isStuck_7 : c_Outcomes_isStuck[7]? = some (9, 1, .iload_n 2, 2, 0, 0, 0, 0, []) := Eq.trans rfl rfl
theorem c_Outcomes_isStuck_8 : c_Outcomes_isStuck[8]? = some (10, 3, .invokevirtual 43, 98, 3, 7, 0, 717, []) := Eq.trans rfl rfl
theorem c_Outcomes_isStuck_9 : c_Outcomes_isStuck[9]? = some (13, 1, .iconst 1, 0, 0, 0, 0, 0, []) := Eq.trans rfl rfl
theorem c_Outcomes_isStuck_10 : c_Outcomes_isStuck[10]? = some (14, 3, .if_icmp .ne 5, 13, 0, 0, 0, 0, []) := Eq.trans rfl rfl
theorem c_Outcomes_isStuck_11 : c_Outcomes_isStuck[11]? = some (17, 1, .iconst 1, 0, 0, 0, 0, 0, []) := Eq.trans rfl rfl
theorem c_Outcomes_isStuck_12 : c_Outcomes_isStuck[12]? = some (18, 1, .ireturn, 0, 0, 0, 3, 0, []) := Eq.trans rfl rfl
theorem c_Outcomes_isStuck_13 : c_Outcomes_isStuck[13]? = some (19, 3, .iinc 2 1, 0, 0, 0, 0, 0, []) := Eq.trans rfl rfl
theorem c_Outcomes_isStuck_14 : c_Outcomes_isStuck[14]? = some (22, 3, .goto (-20), 2, 0, 0, 0, 0, []) := Eq.trans rfl rfl
theorem c_Outcomes_isStuck_15 : c_Outcomes_isStuck[15]? = some (25, 1, .iconst 0, 0, 0, 0, 0, 0, []) := Eq.trans rfl rfl
theorem c_Outcomes_isStuck_16 : c_Outcomes_isStuck[16]? = some (26, 1, .ireturn, 0, 0, 0, 3, 0, []) := Eq.trans rfl rfl
theorem mt_Outcomes_countStuck : am_MT[96]? = some m_Outcomes_countStuck := rfl
theorem c_Outcomes_countStuck_0 : c_Outcomes_countStuck[0]? = some (0, 1, .iconst 0, 0, 0, 0, 0, 0, []) := Eq.trans rfl rfl
theorem c_Outcomes_countStuck_1 : c_Outcomes_countStuck[1]? = some (1, 1, .istore_n 1, 1, 0, 0, 0, 0, []) := Eq.trans rfl rfl
theorem c_Outcomes_countStuck_2 : c_Outcomes_countStuck[2]? = some (2, 1, .iconst 0, 0, 0, 0, 0, 0, []) := Eq.trans rfl rfl
theorem c_Outcomes_countStuck_3 : c_Outcomes_countStuck[3]? = some (3, 1, .istore_n 2, 2, 0, 0, 0, 0, []) := Eq.trans rfl rfl
theorem c_Outcomes_countStuck_4 : c_Outcomes_countStuck[4]? = some (4, 1, .iload_n 2, 2, 0, 0, 0, 0, []) := Eq.trans rfl rfl
theorem c_Outcomes_countStuck_5 : c_Outcomes_countStuck[5]? = some (5, 1, .aload_n 0, 0, 0, 0, 0, 0, []) := Eq.trans rfl rfl
theorem c_Outcomes_countStuck_6 : c_Outcomes_countStuck[6]? = some (6, 3, .getfield 11, 7, 0, 0, 0, 280, []) := Eq.trans rfl rfl
theorem c_Outcomes_countStuck_7 : c_Outcomes_countStuck[7]? = some (9, 3, .if_icmp .ge 20, 15, 0, 0, 0, 0, []) := Eq.trans rfl rfl
theorem c_Outcomes_countStuck_8 : c_Outcomes_countStuck[8]? = some (12, 1, .aload_n 0, 0, 0, 0, 0, 0, []) := Eq.trans rfl rfl
theorem c_Outcomes_countStuck_9 : c_Outcomes_countStuck[9]? = some (13, 1, .iload_n 2, 2, 0, 0, 0, 0, []) := Eq.trans rfl rfl
theorem c_Outcomes_countStuck_10 : c_Outcomes_countStuck[10]? = some (14, 3, .invokevirtual 39, 97, 2, 7, 0, 713, []) := Eq.trans rfl rfl
theorem c_Outcomes_countStuck_11 : c_Outcomes_countStuck[11]? = some (17, 3, .ifCond .eq 6, 13, 0, 0, 0, 0, []) := Eq.trans rfl rfl
theorem c_Outcomes_countStuck_12 : c_Outcomes_countStuck[12]? = some (20, 3, .iinc 1 1, 0, 0, 0, 0, 0, []) := Eq.trans rfl rfl
theorem c_Outcomes_countStuck_13 : c_Outcomes_countStuck[13]? = some (23, 3, .iinc 2 1, 0, 0, 0, 0, 0, []) := Eq.trans rfl rfl
theorem c_Outcomes_countStuck_14 : c_Outcomes_countStuck[14]? = some (26, 3, .goto (-22), 4, 0, 0, 0, 0, []) := Eq.trans rfl rfl
theorem c_Outcomes_countStuck_15 : c_Outcomes_countStuck[15]? = some (29, 1, .iload_n 1, 1, 0, 0, 0, 0, []) := Eq.trans rfl rfl
theorem c_Outcomes_countStuck_16 : c_Outcomes_countStuck[16]? = some (30, 1, .ireturn, 0, 0, 0, 0, 0, []) := Eq.trans rfl rfl
/-- what stands below the number j of m more -/
def tq (j : Nat) : Nat → Int
  | 0 => 1
  | m + 1 => bs (j + 1 + m) * tq j m
theorem pcd_dg {D : Int → Int} (hD : ∀ j : Nat, j < 15 → 0 ≤ D j ∧ D j < bs j) (j : Nat) : ∀ m : Nat, j + 1 + m ≤ 15 → pcd D (j + 1 + m) / tq j m % bs j = D j := by
  intro m
  induction m with
  | zero =>
    intro hm
    have d := hD j (by omega)
    show (pcd D j * bs j + D j) / 1 % bs j = D j
    rcases bs_3 j with e | e | e <;> rw [e] at d ⊢ <;> omega
  | succ m ih =>
    intro hm
    have a := ih (by omega)
    have d := hD (j + 1 + m) (by omega)
    show (pcd D (j + 1 + m) * bs (j + 1 + m) + D ((j + 1 + m : Nat) : Int)) / (bs (j + 1 + m) * tq j m) % bs j = D j
    have b0 : 0 ≤ bs (j + 1 + m) := by rcases bs_3 (j + 1 + m) with e | e | e <;> rw [e] <;> decide
    rw [← Int.ediv_ediv_of_nonneg b0]
    have e1 : (pcd D (j + 1 + m) * bs (j + 1 + m) + D ((j + 1 + m : Nat) : Int)) / bs (j + 1 + m) = pcd D (j + 1 + m) := by
      rcases bs_3 (j + 1 + m) with e | e | e <;> rw [e] at d ⊢ <;> omega
    rw [e1]
    exact a
theorem tq_all : ∀ j : Fin 15, tq j.val (14 - j.val) = 2 ^ (if j.val < 3 then 42 + 3 * (2 - j.val) else if j.val < 9 then 30 + 2 * (8 - j.val) else 5 * (14 - j.val)) := by decide
theorem oc_dg {f : Int → Int} (hf : oc_ok f) (j : Nat) (hj : j < 15) : ocd f / 2 ^ (if j < 3 then 42 + 3 * (2 - j) else if j < 9 then 30 + 2 * (8 - j) else 5 * (14 - j)) % bs j = od f j := by
  have a := pcd_dg (od_ok hf) j (14 - j) (by omega)
  have b := tq_all ⟨j, hj⟩
  dsimp only at b
  rw [b, show j + 1 + (14 - j) = 15 by omega] at a
  exact a
theorem ocd_rg {f : Int → Int} (hf : oc_ok f) : 0 ≤ ocd f ∧ ocd f < 2251799813685248 := pcd_51 (od_ok hf) 15 (Nat.le_refl _)
theorem dv_rg {z : Int} (h : 0 ≤ z ∧ z < 9223372036854775808) (k : Nat) : 0 ≤ z / 2 ^ k ∧ z / 2 ^ k < 9223372036854775808 := by
  have p : (0 : Int) < 2 ^ k := Int.pow_pos (by decide)
  have a := Int.ediv_nonneg h.1 (Int.le_of_lt p)
  have b := Int.ediv_le_self (2 ^ k) h.1
  omega
theorem bz_a3 {z : Int} (h1 : 0 ≤ z) (h2 : z < 9223372036854775808) : bz z &&& Int64.ofNat 3 = bz (z % 4) := bz_and (k := 2) (by decide) h1 h2
set_option maxHeartbeats 8000000 in
theorem ct_onumber (d : Nat) (hd : 1 ≤ d) (h : am_H) (y : Nat) (c : Int) (P O Ln V : Int → Int) (H : ou_at h y c P O Ln V) (hc : 0 ≤ c ∧ c ≤ 60) (i w : Int) (hi : -2147483648 ≤ i ∧ i < 2147483648) (hw : -2147483648 ≤ w ∧ w < 2147483648) (f : Int → Int) (hf : oc_ok f) (hP : 0 ≤ i ∧ i < c → P i = ocd f) : am_Ct am_df am_MT d 98 [.ref y, .int (iI i), .int (iI w)] h (fun r0 h' => r0 = some (.int (iI (if (0 ≤ i ∧ i < c) ∧ 0 ≤ w ∧ w < 15 then f w else -1000))) ∧ h' = h) := by
  obtain ⟨y0, hO, a1, -⟩ := H
  obtain ⟨d, rfl⟩ : ∃ e, d = e + 1 := ⟨d - 1, by omega⟩
  refine am_ct_of2 mt_Outcomes_numberAt (Nat.le_of_ble_eq_true rfl) ?_
  simp only [ar_nil, ar_int, ar_ref, ar_long, Nat.reduceAdd]
  by_cases c1 : i < 0
  · rw [if_neg (by omega)]
    refine am_go_of 20 [] _ c_Outcomes_numberAt_0 ?_
    simp (maxSteps := 2000000) (disch := omega) only [c_Outcomes_numberAt_0, c_Outcomes_numberAt_1, c_Outcomes_numberAt_2, c_Outcomes_numberAt_3, c_Outcomes_numberAt_4, c_Outcomes_numberAt_5, c_Outcomes_numberAt_6, c_Outcomes_numberAt_7, c_Outcomes_numberAt_8, c_Outcomes_numberAt_9, c_Outcomes_numberAt_10, c_Outcomes_numberAt_11, c_Outcomes_numberAt_12, c_Outcomes_numberAt_13, c_Outcomes_numberAt_14, c_Outcomes_numberAt_15, c_Outcomes_numberAt_16, c_Outcomes_numberAt_17, c_Outcomes_numberAt_18, c_Outcomes_numberAt_19, c_Outcomes_numberAt_20, c_Outcomes_numberAt_21, c_Outcomes_numberAt_22, c_Outcomes_numberAt_23, c_Outcomes_numberAt_24, c_Outcomes_numberAt_25, c_Outcomes_numberAt_26, c_Outcomes_numberAt_27, c_Outcomes_numberAt_28, c_Outcomes_numberAt_29, c_Outcomes_numberAt_30, c_Outcomes_numberAt_31, c_Outcomes_numberAt_32, c_Outcomes_numberAt_33, c_Outcomes_numberAt_34, c_Outcomes_numberAt_35, c_Outcomes_numberAt_36, c_Outcomes_numberAt_37, c_Outcomes_numberAt_38, c_Outcomes_numberAt_39, c_Outcomes_numberAt_40, c_Outcomes_numberAt_41, c_Outcomes_numberAt_42, c_Outcomes_numberAt_43, c_Outcomes_numberAt_44, c_Outcomes_numberAt_45, c_Outcomes_numberAt_46, c_Outcomes_numberAt_47, c_Outcomes_numberAt_48, c_Outcomes_numberAt_49, c_Outcomes_numberAt_50, c_Outcomes_numberAt_51, c_Outcomes_numberAt_52, c_Outcomes_numberAt_53, c_Outcomes_numberAt_54, c_Outcomes_numberAt_55, c_Outcomes_numberAt_56, c_Outcomes_numberAt_57, c_Outcomes_numberAt_58, c_Outcomes_numberAt_59, c_Outcomes_numberAt_60, c_Outcomes_numberAt_61, c_Outcomes_numberAt_62, c_Outcomes_numberAt_63, c_Outcomes_numberAt_64, c_Outcomes_numberAt_65, c_Outcomes_numberAt_66, c_Outcomes_numberAt_67, c_Outcomes_numberAt_68, c_Outcomes_numberAt_69, c_Outcomes_numberAt_70, sx_aload_n, sx_bipush, sx_getfield, sx_iadd, sx_iconst, sx_ifCond_lt, sx_if_icmp_ge, sx_if_icmp_lt, sx_iload_n, sx_imul, sx_ireturn, sx_istore_n, sx_isub, sx_l2i, sx_laload, sx_land, sx_ldc2_w, sx_lshr, sx_sipush, sx_zreturn, am_W_s, am_W_0, am_mm_some, List.mem_cons, or_false, false_or, or_self, or_true, true_or, reduceIte, if_false, if_true, am_o_some, am_o_none, am_o_bad, am_o_good, am_ldi_hit, am_ldi_miss, am_lda_hit, am_lda_miss, am_ldl_hit, am_ldl_miss, am_inc_eq, am_inc_hit, am_inc_miss, am_ob_hit, am_fd_0, am_fd_s, am_ai_hit, am_ab_3, am_al_hit, am_aq_4, am_al0_hit, am_put_1, am_put_2, am_put_put, am_up_hit, am_up_miss, am_s1_eq, am_s2_eq, am_fl_nil, am_fl_hit, am_fl_int, am_fl_ref, am_fl_long, am_fl_longx, am_fl2_nil, am_fl2_hit, am_fl2_hit1, am_fl2_int, am_fl2_ref, am_fl2_long, List.not_mem_nil, not_false_eq_true, ne_eq, Nat.reduceAdd, Nat.reduceEqDiff, Nat.zero_add, Nat.add_left_cancel_iff, List.set_cons_zero, List.set_cons_succ, List.length_cons, List.length_nil, Nat.reduceLT, am_ft_i, am_ft_r, am_ft_z, and_true, true_and, Option.toList_some, Option.toList_none, List.cons_append, List.nil_append, List.drop_succ_cons, List.drop_zero, iI_c, iI_b, iI_s, iI_n, iI_add, iI_sub, iI_mul, iI_neg, iI_nle, iI_ix, iI_eq0, iI_eq1, iI_lt0, iI_0lt, iI_le0, iI_0le, iI_eq, iI_lt, iI_le, iI_upd, iI_updZ, Int.reduceEq, Int.reduceLT, Int.reduceLE, Int.reduceNeg, Int.reduceNe, hO, c1, ou_fs_len, ou_f0, ou_f1, ou_f2, ou_f3, ou_f4, ou_s0, rw_hit]
    all_goals (first | omega | rfl | trivial)
  · by_cases c2 : c ≤ i
    · rw [if_neg (by omega)]
      refine am_go_of 20 [] _ c_Outcomes_numberAt_0 ?_
      simp (maxSteps := 2000000) (disch := omega) only [c_Outcomes_numberAt_0, c_Outcomes_numberAt_1, c_Outcomes_numberAt_2, c_Outcomes_numberAt_3, c_Outcomes_numberAt_4, c_Outcomes_numberAt_5, c_Outcomes_numberAt_6, c_Outcomes_numberAt_7, c_Outcomes_numberAt_8, c_Outcomes_numberAt_9, c_Outcomes_numberAt_10, c_Outcomes_numberAt_11, c_Outcomes_numberAt_12, c_Outcomes_numberAt_13, c_Outcomes_numberAt_14, c_Outcomes_numberAt_15, c_Outcomes_numberAt_16, c_Outcomes_numberAt_17, c_Outcomes_numberAt_18, c_Outcomes_numberAt_19, c_Outcomes_numberAt_20, c_Outcomes_numberAt_21, c_Outcomes_numberAt_22, c_Outcomes_numberAt_23, c_Outcomes_numberAt_24, c_Outcomes_numberAt_25, c_Outcomes_numberAt_26, c_Outcomes_numberAt_27, c_Outcomes_numberAt_28, c_Outcomes_numberAt_29, c_Outcomes_numberAt_30, c_Outcomes_numberAt_31, c_Outcomes_numberAt_32, c_Outcomes_numberAt_33, c_Outcomes_numberAt_34, c_Outcomes_numberAt_35, c_Outcomes_numberAt_36, c_Outcomes_numberAt_37, c_Outcomes_numberAt_38, c_Outcomes_numberAt_39, c_Outcomes_numberAt_40, c_Outcomes_numberAt_41, c_Outcomes_numberAt_42, c_Outcomes_numberAt_43, c_Outcomes_numberAt_44, c_Outcomes_numberAt_45, c_Outcomes_numberAt_46, c_Outcomes_numberAt_47, c_Outcomes_numberAt_48, c_Outcomes_numberAt_49, c_Outcomes_numberAt_50, c_Outcomes_numberAt_51, c_Outcomes_numberAt_52, c_Outcomes_numberAt_53, c_Outcomes_numberAt_54, c_Outcomes_numberAt_55, c_Outcomes_numberAt_56, c_Outcomes_numberAt_57, c_Outcomes_numberAt_58, c_Outcomes_numberAt_59, c_Outcomes_numberAt_60, c_Outcomes_numberAt_61, c_Outcomes_numberAt_62, c_Outcomes_numberAt_63, c_Outcomes_numberAt_64, c_Outcomes_numberAt_65, c_Outcomes_numberAt_66, c_Outcomes_numberAt_67, c_Outcomes_numberAt_68, c_Outcomes_numberAt_69, c_Outcomes_numberAt_70, sx_aload_n, sx_bipush, sx_getfield, sx_iadd, sx_iconst, sx_ifCond_lt, sx_if_icmp_ge, sx_if_icmp_lt, sx_iload_n, sx_imul, sx_ireturn, sx_istore_n, sx_isub, sx_l2i, sx_laload, sx_land, sx_ldc2_w, sx_lshr, sx_sipush, sx_zreturn, am_W_s, am_W_0, am_mm_some, List.mem_cons, or_false, false_or, or_self, or_true, true_or, reduceIte, if_false, if_true, am_o_some, am_o_none, am_o_bad, am_o_good, am_ldi_hit, am_ldi_miss, am_lda_hit, am_lda_miss, am_ldl_hit, am_ldl_miss, am_inc_eq, am_inc_hit, am_inc_miss, am_ob_hit, am_fd_0, am_fd_s, am_ai_hit, am_ab_3, am_al_hit, am_aq_4, am_al0_hit, am_put_1, am_put_2, am_put_put, am_up_hit, am_up_miss, am_s1_eq, am_s2_eq, am_fl_nil, am_fl_hit, am_fl_int, am_fl_ref, am_fl_long, am_fl_longx, am_fl2_nil, am_fl2_hit, am_fl2_hit1, am_fl2_int, am_fl2_ref, am_fl2_long, List.not_mem_nil, not_false_eq_true, ne_eq, Nat.reduceAdd, Nat.reduceEqDiff, Nat.zero_add, Nat.add_left_cancel_iff, List.set_cons_zero, List.set_cons_succ, List.length_cons, List.length_nil, Nat.reduceLT, am_ft_i, am_ft_r, am_ft_z, and_true, true_and, Option.toList_some, Option.toList_none, List.cons_append, List.nil_append, List.drop_succ_cons, List.drop_zero, iI_c, iI_b, iI_s, iI_n, iI_add, iI_sub, iI_mul, iI_neg, iI_nle, iI_ix, iI_eq0, iI_eq1, iI_lt0, iI_0lt, iI_le0, iI_0le, iI_eq, iI_lt, iI_le, iI_upd, iI_updZ, Int.reduceEq, Int.reduceLT, Int.reduceLE, Int.reduceNeg, Int.reduceNe, hO, c1, c2, ou_fs_len, ou_f0, ou_f1, ou_f2, ou_f3, ou_f4, ou_s0, rw_hit]
      all_goals (first | omega | rfl | trivial)
    · by_cases c3 : w < 0
      · rw [if_neg (by omega)]
        refine am_go_of 20 [] _ c_Outcomes_numberAt_0 ?_
        simp (maxSteps := 2000000) (disch := omega) only [c_Outcomes_numberAt_0, c_Outcomes_numberAt_1, c_Outcomes_numberAt_2, c_Outcomes_numberAt_3, c_Outcomes_numberAt_4, c_Outcomes_numberAt_5, c_Outcomes_numberAt_6, c_Outcomes_numberAt_7, c_Outcomes_numberAt_8, c_Outcomes_numberAt_9, c_Outcomes_numberAt_10, c_Outcomes_numberAt_11, c_Outcomes_numberAt_12, c_Outcomes_numberAt_13, c_Outcomes_numberAt_14, c_Outcomes_numberAt_15, c_Outcomes_numberAt_16, c_Outcomes_numberAt_17, c_Outcomes_numberAt_18, c_Outcomes_numberAt_19, c_Outcomes_numberAt_20, c_Outcomes_numberAt_21, c_Outcomes_numberAt_22, c_Outcomes_numberAt_23, c_Outcomes_numberAt_24, c_Outcomes_numberAt_25, c_Outcomes_numberAt_26, c_Outcomes_numberAt_27, c_Outcomes_numberAt_28, c_Outcomes_numberAt_29, c_Outcomes_numberAt_30, c_Outcomes_numberAt_31, c_Outcomes_numberAt_32, c_Outcomes_numberAt_33, c_Outcomes_numberAt_34, c_Outcomes_numberAt_35, c_Outcomes_numberAt_36, c_Outcomes_numberAt_37, c_Outcomes_numberAt_38, c_Outcomes_numberAt_39, c_Outcomes_numberAt_40, c_Outcomes_numberAt_41, c_Outcomes_numberAt_42, c_Outcomes_numberAt_43, c_Outcomes_numberAt_44, c_Outcomes_numberAt_45, c_Outcomes_numberAt_46, c_Outcomes_numberAt_47, c_Outcomes_numberAt_48, c_Outcomes_numberAt_49, c_Outcomes_numberAt_50, c_Outcomes_numberAt_51, c_Outcomes_numberAt_52, c_Outcomes_numberAt_53, c_Outcomes_numberAt_54, c_Outcomes_numberAt_55, c_Outcomes_numberAt_56, c_Outcomes_numberAt_57, c_Outcomes_numberAt_58, c_Outcomes_numberAt_59, c_Outcomes_numberAt_60, c_Outcomes_numberAt_61, c_Outcomes_numberAt_62, c_Outcomes_numberAt_63, c_Outcomes_numberAt_64, c_Outcomes_numberAt_65, c_Outcomes_numberAt_66, c_Outcomes_numberAt_67, c_Outcomes_numberAt_68, c_Outcomes_numberAt_69, c_Outcomes_numberAt_70, sx_aload_n, sx_bipush, sx_getfield, sx_iadd, sx_iconst, sx_ifCond_lt, sx_if_icmp_ge, sx_if_icmp_lt, sx_iload_n, sx_imul, sx_ireturn, sx_istore_n, sx_isub, sx_l2i, sx_laload, sx_land, sx_ldc2_w, sx_lshr, sx_sipush, sx_zreturn, am_W_s, am_W_0, am_mm_some, List.mem_cons, or_false, false_or, or_self, or_true, true_or, reduceIte, if_false, if_true, am_o_some, am_o_none, am_o_bad, am_o_good, am_ldi_hit, am_ldi_miss, am_lda_hit, am_lda_miss, am_ldl_hit, am_ldl_miss, am_inc_eq, am_inc_hit, am_inc_miss, am_ob_hit, am_fd_0, am_fd_s, am_ai_hit, am_ab_3, am_al_hit, am_aq_4, am_al0_hit, am_put_1, am_put_2, am_put_put, am_up_hit, am_up_miss, am_s1_eq, am_s2_eq, am_fl_nil, am_fl_hit, am_fl_int, am_fl_ref, am_fl_long, am_fl_longx, am_fl2_nil, am_fl2_hit, am_fl2_hit1, am_fl2_int, am_fl2_ref, am_fl2_long, List.not_mem_nil, not_false_eq_true, ne_eq, Nat.reduceAdd, Nat.reduceEqDiff, Nat.zero_add, Nat.add_left_cancel_iff, List.set_cons_zero, List.set_cons_succ, List.length_cons, List.length_nil, Nat.reduceLT, am_ft_i, am_ft_r, am_ft_z, and_true, true_and, Option.toList_some, Option.toList_none, List.cons_append, List.nil_append, List.drop_succ_cons, List.drop_zero, iI_c, iI_b, iI_s, iI_n, iI_add, iI_sub, iI_mul, iI_neg, iI_nle, iI_ix, iI_eq0, iI_eq1, iI_lt0, iI_0lt, iI_le0, iI_0le, iI_eq, iI_lt, iI_le, iI_upd, iI_updZ, Int.reduceEq, Int.reduceLT, Int.reduceLE, Int.reduceNeg, Int.reduceNe, hO, c1, c2, c3, ou_fs_len, ou_f0, ou_f1, ou_f2, ou_f3, ou_f4, ou_s0, rw_hit]
        all_goals (first | omega | rfl | trivial)
      · by_cases c4 : w < 15
        · rw [if_pos (by omega)]
          have eP := hP (by omega)
          have dg := oc_dg hf w.toNat (by omega)
          have zr := ocd_rg hf
          rw [← eP] at dg zr
          have ew : ((w.toNat : Nat) : Int) = w := by omega
          rw [ew] at dg
          clear hP eP
          by_cases c5 : w < 3
          · have n5 : ¬ 3 ≤ w := by omega
            rw [if_pos (by omega), show bs w.toNat = 8 by unfold bs; rw [if_pos (by omega)], show od f w = f w by unfold od; rw [if_pos (by omega)]] at dg
            obtain ⟨K, hK⟩ : ∃ K : Nat, K = 42 + 3 * (2 - w.toNat) := ⟨_, rfl⟩
            rw [← hK] at dg
            have e1 : 30 + 12 + 3 * (2 - w) = (K : Int) := by omega
            have dv := dv_rg (z := P i) (by omega) K
            clear hf
            refine am_go_of 60 [] _ c_Outcomes_numberAt_0 ?_
            simp (maxSteps := 2000000) (disch := omega) only [c_Outcomes_numberAt_0, c_Outcomes_numberAt_1, c_Outcomes_numberAt_2, c_Outcomes_numberAt_3, c_Outcomes_numberAt_4, c_Outcomes_numberAt_5, c_Outcomes_numberAt_6, c_Outcomes_numberAt_7, c_Outcomes_numberAt_8, c_Outcomes_numberAt_9, c_Outcomes_numberAt_10, c_Outcomes_numberAt_11, c_Outcomes_numberAt_12, c_Outcomes_numberAt_13, c_Outcomes_numberAt_14, c_Outcomes_numberAt_15, c_Outcomes_numberAt_16, c_Outcomes_numberAt_17, c_Outcomes_numberAt_18, c_Outcomes_numberAt_19, c_Outcomes_numberAt_20, c_Outcomes_numberAt_21, c_Outcomes_numberAt_22, c_Outcomes_numberAt_23, c_Outcomes_numberAt_24, c_Outcomes_numberAt_25, c_Outcomes_numberAt_26, c_Outcomes_numberAt_27, c_Outcomes_numberAt_28, c_Outcomes_numberAt_29, c_Outcomes_numberAt_30, c_Outcomes_numberAt_31, c_Outcomes_numberAt_32, c_Outcomes_numberAt_33, c_Outcomes_numberAt_34, c_Outcomes_numberAt_35, c_Outcomes_numberAt_36, c_Outcomes_numberAt_37, c_Outcomes_numberAt_38, c_Outcomes_numberAt_39, c_Outcomes_numberAt_40, c_Outcomes_numberAt_41, c_Outcomes_numberAt_42, c_Outcomes_numberAt_43, c_Outcomes_numberAt_44, c_Outcomes_numberAt_45, c_Outcomes_numberAt_46, c_Outcomes_numberAt_47, c_Outcomes_numberAt_48, c_Outcomes_numberAt_49, c_Outcomes_numberAt_50, c_Outcomes_numberAt_51, c_Outcomes_numberAt_52, c_Outcomes_numberAt_53, c_Outcomes_numberAt_54, c_Outcomes_numberAt_55, c_Outcomes_numberAt_56, c_Outcomes_numberAt_57, c_Outcomes_numberAt_58, c_Outcomes_numberAt_59, c_Outcomes_numberAt_60, c_Outcomes_numberAt_61, c_Outcomes_numberAt_62, c_Outcomes_numberAt_63, c_Outcomes_numberAt_64, c_Outcomes_numberAt_65, c_Outcomes_numberAt_66, c_Outcomes_numberAt_67, c_Outcomes_numberAt_68, c_Outcomes_numberAt_69, c_Outcomes_numberAt_70, sx_aload_n, sx_bipush, sx_getfield, sx_iadd, sx_iconst, sx_ifCond_lt, sx_if_icmp_ge, sx_if_icmp_lt, sx_iload_n, sx_imul, sx_ireturn, sx_istore_n, sx_isub, sx_l2i, sx_laload, sx_land, sx_ldc2_w, sx_lshr, sx_sipush, sx_zreturn, am_W_s, am_W_0, am_mm_some, List.mem_cons, or_false, false_or, or_self, or_true, true_or, reduceIte, if_false, if_true, am_o_some, am_o_none, am_o_bad, am_o_good, am_ldi_hit, am_ldi_miss, am_lda_hit, am_lda_miss, am_ldl_hit, am_ldl_miss, am_inc_eq, am_inc_hit, am_inc_miss, am_ob_hit, am_fd_0, am_fd_s, am_ai_hit, am_ab_3, am_al_hit, am_aq_4, am_al0_hit, am_put_1, am_put_2, am_put_put, am_up_hit, am_up_miss, am_s1_eq, am_s2_eq, am_fl_nil, am_fl_hit, am_fl_int, am_fl_ref, am_fl_long, am_fl_longx, am_fl2_nil, am_fl2_hit, am_fl2_hit1, am_fl2_int, am_fl2_ref, am_fl2_long, List.not_mem_nil, not_false_eq_true, ne_eq, Nat.reduceAdd, Nat.reduceEqDiff, Nat.zero_add, Nat.add_left_cancel_iff, List.set_cons_zero, List.set_cons_succ, List.length_cons, List.length_nil, Nat.reduceLT, am_ft_i, am_ft_r, am_ft_z, and_true, true_and, Option.toList_some, Option.toList_none, List.cons_append, List.nil_append, List.drop_succ_cons, List.drop_zero, iI_c, iI_b, iI_s, iI_n, iI_add, iI_sub, iI_mul, iI_neg, iI_nle, iI_ix, iI_eq0, iI_eq1, iI_lt0, iI_0lt, iI_le0, iI_0le, iI_eq, iI_lt, iI_le, iI_upd, iI_updZ, Int.reduceEq, Int.reduceLT, Int.reduceLE, Int.reduceNeg, Int.reduceNe, hO, a1, c1, c2, c3, c4, n5, e1, bz_shr, bz_a7, bz_l2i, dg, ou_fs_len, ou_f0, ou_f1, ou_f2, ou_f3, ou_f4, ou_s0, rw_hit]
            repeat (refine And.intro (by omega) ?_)
            all_goals (first | omega | rfl | trivial)
          · by_cases c6 : w < 9
            · have n5 : 3 ≤ w := by omega
              have n6 : ¬ 9 ≤ w := by omega
              rw [if_neg (by omega), if_pos (by omega), show bs w.toNat = 4 by unfold bs; rw [if_neg (by omega), if_pos (by omega)], show od f w = f w by unfold od; rw [if_pos (by omega)]] at dg
              obtain ⟨K, hK⟩ : ∃ K : Nat, K = 30 + 2 * (8 - w.toNat) := ⟨_, rfl⟩
              rw [← hK] at dg
              have e1 : 30 + 2 * (8 - w) = (K : Int) := by omega
              have dv := dv_rg (z := P i) (by omega) K
              clear hf
              refine am_go_of 60 [] _ c_Outcomes_numberAt_0 ?_
              simp (maxSteps := 2000000) (disch := omega) only [c_Outcomes_numberAt_0, c_Outcomes_numberAt_1, c_Outcomes_numberAt_2, c_Outcomes_numberAt_3, c_Outcomes_numberAt_4, c_Outcomes_numberAt_5, c_Outcomes_numberAt_6, c_Outcomes_numberAt_7, c_Outcomes_numberAt_8, c_Outcomes_numberAt_9, c_Outcomes_numberAt_10, c_Outcomes_numberAt_11, c_Outcomes_numberAt_12, c_Outcomes_numberAt_13, c_Outcomes_numberAt_14, c_Outcomes_numberAt_15, c_Outcomes_numberAt_16, c_Outcomes_numberAt_17, c_Outcomes_numberAt_18, c_Outcomes_numberAt_19, c_Outcomes_numberAt_20, c_Outcomes_numberAt_21, c_Outcomes_numberAt_22, c_Outcomes_numberAt_23, c_Outcomes_numberAt_24, c_Outcomes_numberAt_25, c_Outcomes_numberAt_26, c_Outcomes_numberAt_27, c_Outcomes_numberAt_28, c_Outcomes_numberAt_29, c_Outcomes_numberAt_30, c_Outcomes_numberAt_31, c_Outcomes_numberAt_32, c_Outcomes_numberAt_33, c_Outcomes_numberAt_34, c_Outcomes_numberAt_35, c_Outcomes_numberAt_36, c_Outcomes_numberAt_37, c_Outcomes_numberAt_38, c_Outcomes_numberAt_39, c_Outcomes_numberAt_40, c_Outcomes_numberAt_41, c_Outcomes_numberAt_42, c_Outcomes_numberAt_43, c_Outcomes_numberAt_44, c_Outcomes_numberAt_45, c_Outcomes_numberAt_46, c_Outcomes_numberAt_47, c_Outcomes_numberAt_48, c_Outcomes_numberAt_49, c_Outcomes_numberAt_50, c_Outcomes_numberAt_51, c_Outcomes_numberAt_52, c_Outcomes_numberAt_53, c_Outcomes_numberAt_54, c_Outcomes_numberAt_55, c_Outcomes_numberAt_56, c_Outcomes_numberAt_57, c_Outcomes_numberAt_58, c_Outcomes_numberAt_59, c_Outcomes_numberAt_60, c_Outcomes_numberAt_61, c_Outcomes_numberAt_62, c_Outcomes_numberAt_63, c_Outcomes_numberAt_64, c_Outcomes_numberAt_65, c_Outcomes_numberAt_66, c_Outcomes_numberAt_67, c_Outcomes_numberAt_68, c_Outcomes_numberAt_69, c_Outcomes_numberAt_70, sx_aload_n, sx_bipush, sx_getfield, sx_iadd, sx_iconst, sx_ifCond_lt, sx_if_icmp_ge, sx_if_icmp_lt, sx_iload_n, sx_imul, sx_ireturn, sx_istore_n, sx_isub, sx_l2i, sx_laload, sx_land, sx_ldc2_w, sx_lshr, sx_sipush, sx_zreturn, am_W_s, am_W_0, am_mm_some, List.mem_cons, or_false, false_or, or_self, or_true, true_or, reduceIte, if_false, if_true, am_o_some, am_o_none, am_o_bad, am_o_good, am_ldi_hit, am_ldi_miss, am_lda_hit, am_lda_miss, am_ldl_hit, am_ldl_miss, am_inc_eq, am_inc_hit, am_inc_miss, am_ob_hit, am_fd_0, am_fd_s, am_ai_hit, am_ab_3, am_al_hit, am_aq_4, am_al0_hit, am_put_1, am_put_2, am_put_put, am_up_hit, am_up_miss, am_s1_eq, am_s2_eq, am_fl_nil, am_fl_hit, am_fl_int, am_fl_ref, am_fl_long, am_fl_longx, am_fl2_nil, am_fl2_hit, am_fl2_hit1, am_fl2_int, am_fl2_ref, am_fl2_long, List.not_mem_nil, not_false_eq_true, ne_eq, Nat.reduceAdd, Nat.reduceEqDiff, Nat.zero_add, Nat.add_left_cancel_iff, List.set_cons_zero, List.set_cons_succ, List.length_cons, List.length_nil, Nat.reduceLT, am_ft_i, am_ft_r, am_ft_z, and_true, true_and, Option.toList_some, Option.toList_none, List.cons_append, List.nil_append, List.drop_succ_cons, List.drop_zero, iI_c, iI_b, iI_s, iI_n, iI_add, iI_sub, iI_mul, iI_neg, iI_nle, iI_ix, iI_eq0, iI_eq1, iI_lt0, iI_0lt, iI_le0, iI_0le, iI_eq, iI_lt, iI_le, iI_upd, iI_updZ, Int.reduceEq, Int.reduceLT, Int.reduceLE, Int.reduceNeg, Int.reduceNe, hO, a1, c1, c2, c3, c4, n5, n6, e1, bz_shr, bz_a3, bz_l2i, dg, ou_fs_len, ou_f0, ou_f1, ou_f2, ou_f3, ou_f4, ou_s0, rw_hit]
              repeat (refine And.intro (by omega) ?_)
              all_goals (first | omega | rfl | trivial)
            · have n5 : 3 ≤ w := by omega
              have n6 : 9 ≤ w := by omega
              rw [if_neg (by omega), if_neg (by omega), show bs w.toNat = 32 by unfold bs; rw [if_neg (by omega), if_neg (by omega)], show od f w = f w + 9 by unfold od; rw [if_neg (by omega)]] at dg
              obtain ⟨K, hK⟩ : ∃ K : Nat, K = 5 * (14 - w.toNat) := ⟨_, rfl⟩
              rw [← hK] at dg
              have e1 : 5 * (14 - w) = (K : Int) := by omega
              have e2 : f w + 9 - 9 = f w := by omega
              have dv := dv_rg (z := P i) (by omega) K
              clear hf
              refine am_go_of 60 [] _ c_Outcomes_numberAt_0 ?_
              simp (maxSteps := 2000000) (disch := omega) only [c_Outcomes_numberAt_0, c_Outcomes_numberAt_1, c_Outcomes_numberAt_2, c_Outcomes_numberAt_3, c_Outcomes_numberAt_4, c_Outcomes_numberAt_5, c_Outcomes_numberAt_6, c_Outcomes_numberAt_7, c_Outcomes_numberAt_8, c_Outcomes_numberAt_9, c_Outcomes_numberAt_10, c_Outcomes_numberAt_11, c_Outcomes_numberAt_12, c_Outcomes_numberAt_13, c_Outcomes_numberAt_14, c_Outcomes_numberAt_15, c_Outcomes_numberAt_16, c_Outcomes_numberAt_17, c_Outcomes_numberAt_18, c_Outcomes_numberAt_19, c_Outcomes_numberAt_20, c_Outcomes_numberAt_21, c_Outcomes_numberAt_22, c_Outcomes_numberAt_23, c_Outcomes_numberAt_24, c_Outcomes_numberAt_25, c_Outcomes_numberAt_26, c_Outcomes_numberAt_27, c_Outcomes_numberAt_28, c_Outcomes_numberAt_29, c_Outcomes_numberAt_30, c_Outcomes_numberAt_31, c_Outcomes_numberAt_32, c_Outcomes_numberAt_33, c_Outcomes_numberAt_34, c_Outcomes_numberAt_35, c_Outcomes_numberAt_36, c_Outcomes_numberAt_37, c_Outcomes_numberAt_38, c_Outcomes_numberAt_39, c_Outcomes_numberAt_40, c_Outcomes_numberAt_41, c_Outcomes_numberAt_42, c_Outcomes_numberAt_43, c_Outcomes_numberAt_44, c_Outcomes_numberAt_45, c_Outcomes_numberAt_46, c_Outcomes_numberAt_47, c_Outcomes_numberAt_48, c_Outcomes_numberAt_49, c_Outcomes_numberAt_50, c_Outcomes_numberAt_51, c_Outcomes_numberAt_52, c_Outcomes_numberAt_53, c_Outcomes_numberAt_54, c_Outcomes_numberAt_55, c_Outcomes_numberAt_56, c_Outcomes_numberAt_57, c_Outcomes_numberAt_58, c_Outcomes_numberAt_59, c_Outcomes_numberAt_60, c_Outcomes_numberAt_61, c_Outcomes_numberAt_62, c_Outcomes_numberAt_63, c_Outcomes_numberAt_64, c_Outcomes_numberAt_65, c_Outcomes_numberAt_66, c_Outcomes_numberAt_67, c_Outcomes_numberAt_68, c_Outcomes_numberAt_69, c_Outcomes_numberAt_70, sx_aload_n, sx_bipush, sx_getfield, sx_iadd, sx_iconst, sx_ifCond_lt, sx_if_icmp_ge, sx_if_icmp_lt, sx_iload_n, sx_imul, sx_ireturn, sx_istore_n, sx_isub, sx_l2i, sx_laload, sx_land, sx_ldc2_w, sx_lshr, sx_sipush, sx_zreturn, am_W_s, am_W_0, am_mm_some, List.mem_cons, or_false, false_or, or_self, or_true, true_or, reduceIte, if_false, if_true, am_o_some, am_o_none, am_o_bad, am_o_good, am_ldi_hit, am_ldi_miss, am_lda_hit, am_lda_miss, am_ldl_hit, am_ldl_miss, am_inc_eq, am_inc_hit, am_inc_miss, am_ob_hit, am_fd_0, am_fd_s, am_ai_hit, am_ab_3, am_al_hit, am_aq_4, am_al0_hit, am_put_1, am_put_2, am_put_put, am_up_hit, am_up_miss, am_s1_eq, am_s2_eq, am_fl_nil, am_fl_hit, am_fl_int, am_fl_ref, am_fl_long, am_fl_longx, am_fl2_nil, am_fl2_hit, am_fl2_hit1, am_fl2_int, am_fl2_ref, am_fl2_long, List.not_mem_nil, not_false_eq_true, ne_eq, Nat.reduceAdd, Nat.reduceEqDiff, Nat.zero_add, Nat.add_left_cancel_iff, List.set_cons_zero, List.set_cons_succ, List.length_cons, List.length_nil, Nat.reduceLT, am_ft_i, am_ft_r, am_ft_z, and_true, true_and, Option.toList_some, Option.toList_none, List.cons_append, List.nil_append, List.drop_succ_cons, List.drop_zero, iI_c, iI_b, iI_s, iI_n, iI_add, iI_sub, iI_mul, iI_neg, iI_nle, iI_ix, iI_eq0, iI_eq1, iI_lt0, iI_0lt, iI_le0, iI_0le, iI_eq, iI_lt, iI_le, iI_upd, iI_updZ, Int.reduceEq, Int.reduceLT, Int.reduceLE, Int.reduceNeg, Int.reduceNe, hO, a1, c1, c2, c3, c4, n5, n6, e1, bz_shr, bz_a31, bz_l2i, dg, e2, ou_fs_len, ou_f0, ou_f1, ou_f2, ou_f3, ou_f4, ou_s0, rw_hit]
              repeat (refine And.intro (by omega) ?_)
              all_goals (first | omega | rfl | trivial)
        · rw [if_neg (by omega)]
          refine am_go_of 20 [] _ c_Outcomes_numberAt_0 ?_
          simp (maxSteps := 2000000) (disch := omega) only [c_Outcomes_numberAt_0, c_Outcomes_numberAt_1, c_Outcomes_numberAt_2, c_Outcomes_numberAt_3, c_Outcomes_numberAt_4, c_Outcomes_numberAt_5, c_Outcomes_numberAt_6, c_Outcomes_numberAt_7, c_Outcomes_numberAt_8, c_Outcomes_numberAt_9, c_Outcomes_numberAt_10, c_Outcomes_numberAt_11, c_Outcomes_numberAt_12, c_Outcomes_numberAt_13, c_Outcomes_numberAt_14, c_Outcomes_numberAt_15, c_Outcomes_numberAt_16, c_Outcomes_numberAt_17, c_Outcomes_numberAt_18, c_Outcomes_numberAt_19, c_Outcomes_numberAt_20, c_Outcomes_numberAt_21, c_Outcomes_numberAt_22, c_Outcomes_numberAt_23, c_Outcomes_numberAt_24, c_Outcomes_numberAt_25, c_Outcomes_numberAt_26, c_Outcomes_numberAt_27, c_Outcomes_numberAt_28, c_Outcomes_numberAt_29, c_Outcomes_numberAt_30, c_Outcomes_numberAt_31, c_Outcomes_numberAt_32, c_Outcomes_numberAt_33, c_Outcomes_numberAt_34, c_Outcomes_numberAt_35, c_Outcomes_numberAt_36, c_Outcomes_numberAt_37, c_Outcomes_numberAt_38, c_Outcomes_numberAt_39, c_Outcomes_numberAt_40, c_Outcomes_numberAt_41, c_Outcomes_numberAt_42, c_Outcomes_numberAt_43, c_Outcomes_numberAt_44, c_Outcomes_numberAt_45, c_Outcomes_numberAt_46, c_Outcomes_numberAt_47, c_Outcomes_numberAt_48, c_Outcomes_numberAt_49, c_Outcomes_numberAt_50, c_Outcomes_numberAt_51, c_Outcomes_numberAt_52, c_Outcomes_numberAt_53, c_Outcomes_numberAt_54, c_Outcomes_numberAt_55, c_Outcomes_numberAt_56, c_Outcomes_numberAt_57, c_Outcomes_numberAt_58, c_Outcomes_numberAt_59, c_Outcomes_numberAt_60, c_Outcomes_numberAt_61, c_Outcomes_numberAt_62, c_Outcomes_numberAt_63, c_Outcomes_numberAt_64, c_Outcomes_numberAt_65, c_Outcomes_numberAt_66, c_Outcomes_numberAt_67, c_Outcomes_numberAt_68, c_Outcomes_numberAt_69, c_Outcomes_numberAt_70, sx_aload_n, sx_bipush, sx_getfield, sx_iadd, sx_iconst, sx_ifCond_lt, sx_if_icmp_ge, sx_if_icmp_lt, sx_iload_n, sx_imul, sx_ireturn, sx_istore_n, sx_isub, sx_l2i, sx_laload, sx_land, sx_ldc2_w, sx_lshr, sx_sipush, sx_zreturn, am_W_s, am_W_0, am_mm_some, List.mem_cons, or_false, false_or, or_self, or_true, true_or, reduceIte, if_false, if_true, am_o_some, am_o_none, am_o_bad, am_o_good, am_ldi_hit, am_ldi_miss, am_lda_hit, am_lda_miss, am_ldl_hit, am_ldl_miss, am_inc_eq, am_inc_hit, am_inc_miss, am_ob_hit, am_fd_0, am_fd_s, am_ai_hit, am_ab_3, am_al_hit, am_aq_4, am_al0_hit, am_put_1, am_put_2, am_put_put, am_up_hit, am_up_miss, am_s1_eq, am_s2_eq, am_fl_nil, am_fl_hit, am_fl_int, am_fl_ref, am_fl_long, am_fl_longx, am_fl2_nil, am_fl2_hit, am_fl2_hit1, am_fl2_int, am_fl2_ref, am_fl2_long, List.not_mem_nil, not_false_eq_true, ne_eq, Nat.reduceAdd, Nat.reduceEqDiff, Nat.zero_add, Nat.add_left_cancel_iff, List.set_cons_zero, List.set_cons_succ, List.length_cons, List.length_nil, Nat.reduceLT, am_ft_i, am_ft_r, am_ft_z, and_true, true_and, Option.toList_some, Option.toList_none, List.cons_append, List.nil_append, List.drop_succ_cons, List.drop_zero, iI_c, iI_b, iI_s, iI_n, iI_add, iI_sub, iI_mul, iI_neg, iI_nle, iI_ix, iI_eq0, iI_eq1, iI_lt0, iI_0lt, iI_le0, iI_0le, iI_eq, iI_lt, iI_le, iI_upd, iI_updZ, Int.reduceEq, Int.reduceLT, Int.reduceLE, Int.reduceNeg, Int.reduceNe, hO, c1, c2, c3, c4, ou_fs_len, ou_f0, ou_f1, ou_f2, ou_f3, ou_f4, ou_s0, rw_hit]
          all_goals (first | omega | rfl | trivial)
