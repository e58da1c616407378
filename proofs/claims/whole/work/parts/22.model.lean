theorem mt_Md_comes : am_MT[123]? = some m_Md_comes := rfl
theorem c_Md_comes_0 : c_Md_comes[0]? = some (0, 1, .aload_n 0, 0, 0, 0, 0, 0, []) := Eq.trans rfl rfl
theorem c_Md_comes_1 : c_Md_comes[1]? = some (1, 3, .getfield 47, 8, 14, 0, 0, 771, []) := Eq.trans rfl rfl
theorem c_Md_comes_2 : c_Md_comes[2]? = some (4, 2, .bipush 36, 0, 0, 0, 0, 0, []) := Eq.trans rfl rfl
theorem c_Md_comes_3 : c_Md_comes[3]? = some (6, 1, .iload_n 1, 1, 0, 0, 0, 0, []) := Eq.trans rfl rfl
theorem c_Md_comes_4 : c_Md_comes[4]? = some (7, 1, .iadd, 0, 0, 0, 0, 0, []) := Eq.trans rfl rfl
theorem c_Md_comes_5 : c_Md_comes[5]? = some (8, 1, .iaload, 0, 0, 0, 0, 0, []) := Eq.trans rfl rfl
theorem c_Md_comes_6 : c_Md_comes[6]? = some (9, 3, .ifCond .eq 5, 9, 0, 0, 0, 0, []) := Eq.trans rfl rfl
theorem c_Md_comes_7 : c_Md_comes[7]? = some (12, 1, .iconst (-1), 0, 0, 0, 0, 0, []) := Eq.trans rfl rfl
theorem c_Md_comes_8 : c_Md_comes[8]? = some (13, 1, .ireturn, 0, 0, 0, 0, 0, []) := Eq.trans rfl rfl
theorem c_Md_comes_9 : c_Md_comes[9]? = some (14, 1, .aload_n 0, 0, 0, 0, 0, 0, []) := Eq.trans rfl rfl
theorem c_Md_comes_10 : c_Md_comes[10]? = some (15, 1, .iload_n 1, 1, 0, 0, 0, 0, []) := Eq.trans rfl rfl
theorem c_Md_comes_11 : c_Md_comes[11]? = some (16, 3, .invokevirtual 151, 124, 2, 8, 0, 936, []) := Eq.trans rfl rfl
theorem c_Md_comes_12 : c_Md_comes[12]? = some (19, 1, .istore_n 2, 2, 0, 0, 0, 0, []) := Eq.trans rfl rfl
theorem c_Md_comes_13 : c_Md_comes[13]? = some (20, 1, .iload_n 2, 2, 0, 0, 0, 0, []) := Eq.trans rfl rfl
theorem c_Md_comes_14 : c_Md_comes[14]? = some (21, 1, .iconst (-1), 0, 0, 0, 0, 0, []) := Eq.trans rfl rfl
theorem c_Md_comes_15 : c_Md_comes[15]? = some (22, 3, .if_icmp .eq 48, 45, 0, 0, 0, 0, []) := Eq.trans rfl rfl
theorem c_Md_comes_16 : c_Md_comes[16]? = some (25, 1, .aload_n 0, 0, 0, 0, 0, 0, []) := Eq.trans rfl rfl
theorem c_Md_comes_17 : c_Md_comes[17]? = some (26, 3, .getfield 47, 8, 14, 0, 0, 771, []) := Eq.trans rfl rfl
theorem c_Md_comes_18 : c_Md_comes[18]? = some (29, 2, .bipush 18, 0, 0, 0, 0, 0, []) := Eq.trans rfl rfl
theorem c_Md_comes_19 : c_Md_comes[19]? = some (31, 1, .iload_n 2, 2, 0, 0, 0, 0, []) := Eq.trans rfl rfl
theorem c_Md_comes_20 : c_Md_comes[20]? = some (32, 1, .iadd, 0, 0, 0, 0, 0, []) := Eq.trans rfl rfl
theorem c_Md_comes_21 : c_Md_comes[21]? = some (33, 1, .iaload, 0, 0, 0, 0, 0, []) := Eq.trans rfl rfl
theorem c_Md_comes_22 : c_Md_comes[22]? = some (34, 3, .ifCond .lt 36, 45, 0, 0, 0, 0, []) := Eq.trans rfl rfl
theorem c_Md_comes_23 : c_Md_comes[23]? = some (37, 1, .aload_n 0, 0, 0, 0, 0, 0, []) := Eq.trans rfl rfl
theorem c_Md_comes_24 : c_Md_comes[24]? = some (38, 1, .iload_n 1, 1, 0, 0, 0, 0, []) := Eq.trans rfl rfl
theorem c_Md_comes_25 : c_Md_comes[25]? = some (39, 1, .iload_n 2, 2, 0, 0, 0, 0, []) := Eq.trans rfl rfl
theorem c_Md_comes_26 : c_Md_comes[26]? = some (40, 3, .invokevirtual 154, 125, 3, 8, 0, 940, []) := Eq.trans rfl rfl
theorem c_Md_comes_27 : c_Md_comes[27]? = some (43, 1, .istore_n 3, 3, 0, 0, 0, 0, []) := Eq.trans rfl rfl
theorem c_Md_comes_28 : c_Md_comes[28]? = some (44, 1, .iload_n 3, 3, 0, 0, 0, 0, []) := Eq.trans rfl rfl
theorem c_Md_comes_29 : c_Md_comes[29]? = some (45, 1, .aload_n 0, 0, 0, 0, 0, 0, []) := Eq.trans rfl rfl
theorem c_Md_comes_30 : c_Md_comes[30]? = some (46, 3, .getfield 26, 8, 7, 0, 0, 764, []) := Eq.trans rfl rfl
theorem c_Md_comes_31 : c_Md_comes[31]? = some (49, 1, .iload_n 2, 2, 0, 0, 0, 0, []) := Eq.trans rfl rfl
theorem c_Md_comes_32 : c_Md_comes[32]? = some (50, 1, .iaload, 0, 0, 0, 0, 0, []) := Eq.trans rfl rfl
theorem c_Md_comes_33 : c_Md_comes[33]? = some (51, 3, .if_icmp .ge 17, 43, 0, 0, 0, 0, []) := Eq.trans rfl rfl
theorem c_Md_comes_34 : c_Md_comes[34]? = some (54, 1, .aload_n 0, 0, 0, 0, 0, 0, []) := Eq.trans rfl rfl
theorem c_Md_comes_35 : c_Md_comes[35]? = some (55, 3, .getfield 29, 8, 8, 0, 0, 765, []) := Eq.trans rfl rfl
theorem c_Md_comes_36 : c_Md_comes[36]? = some (58, 2, .bipush 6, 0, 0, 0, 0, 0, []) := Eq.trans rfl rfl
theorem c_Md_comes_37 : c_Md_comes[37]? = some (60, 1, .iload_n 2, 2, 0, 0, 0, 0, []) := Eq.trans rfl rfl
theorem c_Md_comes_38 : c_Md_comes[38]? = some (61, 1, .imul, 0, 0, 0, 0, 0, []) := Eq.trans rfl rfl
theorem c_Md_comes_39 : c_Md_comes[39]? = some (62, 1, .iload_n 3, 3, 0, 0, 0, 0, []) := Eq.trans rfl rfl
theorem c_Md_comes_40 : c_Md_comes[40]? = some (63, 1, .iadd, 0, 0, 0, 0, 0, []) := Eq.trans rfl rfl
theorem c_Md_comes_41 : c_Md_comes[41]? = some (64, 1, .iaload, 0, 0, 0, 0, 0, []) := Eq.trans rfl rfl
theorem c_Md_comes_42 : c_Md_comes[42]? = some (65, 3, .goto 4, 44, 0, 0, 0, 0, []) := Eq.trans rfl rfl
theorem c_Md_comes_43 : c_Md_comes[43]? = some (68, 1, .iconst (-1), 0, 0, 0, 0, 0, []) := Eq.trans rfl rfl
theorem c_Md_comes_44 : c_Md_comes[44]? = some (69, 1, .ireturn, 0, 0, 0, 0, 0, []) := Eq.trans rfl rfl
theorem c_Md_comes_45 : c_Md_comes[45]? = some (70, 1, .iload_n 2, 2, 0, 0, 0, 0, []) := Eq.trans rfl rfl
theorem c_Md_comes_46 : c_Md_comes[46]? = some (71, 1, .iconst (-1), 0, 0, 0, 0, 0, []) := Eq.trans rfl rfl
theorem c_Md_comes_47 : c_Md_comes[47]? = some (72, 3, .if_icmp .ne 10, 52, 0, 0, 0, 0, []) := Eq.trans rfl rfl
theorem c_Md_comes_48 : c_Md_comes[48]? = some (75, 2, .bipush 6, 0, 0, 0, 0, 0, []) := Eq.trans rfl rfl
theorem c_Md_comes_49 : c_Md_comes[49]? = some (77, 1, .iload_n 1, 1, 0, 0, 0, 0, []) := Eq.trans rfl rfl
theorem c_Md_comes_50 : c_Md_comes[50]? = some (78, 1, .iadd, 0, 0, 0, 0, 0, []) := Eq.trans rfl rfl
theorem c_Md_comes_51 : c_Md_comes[51]? = some (79, 3, .goto 4, 53, 0, 0, 0, 0, []) := Eq.trans rfl rfl
theorem c_Md_comes_52 : c_Md_comes[52]? = some (82, 1, .iload_n 2, 2, 0, 0, 0, 0, []) := Eq.trans rfl rfl
theorem c_Md_comes_53 : c_Md_comes[53]? = some (83, 1, .istore_n 3, 3, 0, 0, 0, 0, []) := Eq.trans rfl rfl
theorem c_Md_comes_54 : c_Md_comes[54]? = some (84, 1, .iload_n 2, 2, 0, 0, 0, 0, []) := Eq.trans rfl rfl
theorem c_Md_comes_55 : c_Md_comes[55]? = some (85, 1, .iconst (-1), 0, 0, 0, 0, 0, []) := Eq.trans rfl rfl
theorem c_Md_comes_56 : c_Md_comes[56]? = some (86, 3, .if_icmp .ne 15, 64, 0, 0, 0, 0, []) := Eq.trans rfl rfl
theorem c_Md_comes_57 : c_Md_comes[57]? = some (89, 1, .aload_n 0, 0, 0, 0, 0, 0, []) := Eq.trans rfl rfl
theorem c_Md_comes_58 : c_Md_comes[58]? = some (90, 3, .getfield 47, 8, 14, 0, 0, 771, []) := Eq.trans rfl rfl
theorem c_Md_comes_59 : c_Md_comes[59]? = some (93, 2, .bipush 39, 0, 0, 0, 0, 0, []) := Eq.trans rfl rfl
theorem c_Md_comes_60 : c_Md_comes[60]? = some (95, 1, .iload_n 1, 1, 0, 0, 0, 0, []) := Eq.trans rfl rfl
theorem c_Md_comes_61 : c_Md_comes[61]? = some (96, 1, .iadd, 0, 0, 0, 0, 0, []) := Eq.trans rfl rfl
theorem c_Md_comes_62 : c_Md_comes[62]? = some (97, 1, .iaload, 0, 0, 0, 0, 0, []) := Eq.trans rfl rfl
theorem c_Md_comes_63 : c_Md_comes[63]? = some (98, 3, .goto 12, 70, 0, 0, 0, 0, []) := Eq.trans rfl rfl
theorem c_Md_comes_64 : c_Md_comes[64]? = some (101, 1, .aload_n 0, 0, 0, 0, 0, 0, []) := Eq.trans rfl rfl
theorem c_Md_comes_65 : c_Md_comes[65]? = some (102, 3, .getfield 47, 8, 14, 0, 0, 771, []) := Eq.trans rfl rfl
theorem c_Md_comes_66 : c_Md_comes[66]? = some (105, 2, .bipush 24, 0, 0, 0, 0, 0, []) := Eq.trans rfl rfl
theorem c_Md_comes_67 : c_Md_comes[67]? = some (107, 1, .iload_n 2, 2, 0, 0, 0, 0, []) := Eq.trans rfl rfl
theorem c_Md_comes_68 : c_Md_comes[68]? = some (108, 1, .iadd, 0, 0, 0, 0, 0, []) := Eq.trans rfl rfl
theorem c_Md_comes_69 : c_Md_comes[69]? = some (109, 1, .iaload, 0, 0, 0, 0, 0, []) := Eq.trans rfl rfl
theorem c_Md_comes_70 : c_Md_comes[70]? = some (110, 2, .istore 4, 4, 0, 0, 0, 0, []) := Eq.trans rfl rfl
theorem c_Md_comes_71 : c_Md_comes[71]? = some (112, 2, .iload 4, 4, 0, 0, 0, 0, []) := Eq.trans rfl rfl
theorem c_Md_comes_72 : c_Md_comes[72]? = some (114, 1, .aload_n 0, 0, 0, 0, 0, 0, []) := Eq.trans rfl rfl
theorem c_Md_comes_73 : c_Md_comes[73]? = some (115, 3, .getfield 32, 8, 9, 0, 0, 766, []) := Eq.trans rfl rfl
theorem c_Md_comes_74 : c_Md_comes[74]? = some (118, 1, .iload_n 3, 3, 0, 0, 0, 0, []) := Eq.trans rfl rfl
theorem c_Md_comes_75 : c_Md_comes[75]? = some (119, 1, .iaload, 0, 0, 0, 0, 0, []) := Eq.trans rfl rfl
theorem c_Md_comes_76 : c_Md_comes[76]? = some (120, 3, .if_icmp .ne 5, 79, 0, 0, 0, 0, []) := Eq.trans rfl rfl
theorem c_Md_comes_77 : c_Md_comes[77]? = some (123, 1, .iconst (-1), 0, 0, 0, 0, 0, []) := Eq.trans rfl rfl
theorem c_Md_comes_78 : c_Md_comes[78]? = some (124, 1, .ireturn, 0, 0, 0, 0, 0, []) := Eq.trans rfl rfl
theorem c_Md_comes_79 : c_Md_comes[79]? = some (125, 1, .aload_n 0, 0, 0, 0, 0, 0, []) := Eq.trans rfl rfl
theorem c_Md_comes_80 : c_Md_comes[80]? = some (126, 1, .iload_n 3, 3, 0, 0, 0, 0, []) := Eq.trans rfl rfl
theorem c_Md_comes_81 : c_Md_comes[81]? = some (127, 2, .iload 4, 4, 0, 0, 0, 0, []) := Eq.trans rfl rfl
theorem c_Md_comes_82 : c_Md_comes[82]? = some (129, 3, .invokevirtual 158, 127, 3, 8, 0, 948, []) := Eq.trans rfl rfl
theorem c_Md_comes_83 : c_Md_comes[83]? = some (132, 2, .istore 5, 5, 0, 0, 0, 0, []) := Eq.trans rfl rfl
theorem c_Md_comes_84 : c_Md_comes[84]? = some (134, 2, .iload 5, 5, 0, 0, 0, 0, []) := Eq.trans rfl rfl
theorem c_Md_comes_85 : c_Md_comes[85]? = some (136, 2, .bipush (-5), 0, 0, 0, 0, 0, []) := Eq.trans rfl rfl
theorem c_Md_comes_86 : c_Md_comes[86]? = some (138, 3, .if_icmp .ne 7, 89, 0, 0, 0, 0, []) := Eq.trans rfl rfl
theorem c_Md_comes_87 : c_Md_comes[87]? = some (141, 1, .iconst (-1), 0, 0, 0, 0, 0, []) := Eq.trans rfl rfl
theorem c_Md_comes_88 : c_Md_comes[88]? = some (142, 3, .goto 5, 90, 0, 0, 0, 0, []) := Eq.trans rfl rfl
theorem c_Md_comes_89 : c_Md_comes[89]? = some (145, 2, .iload 5, 5, 0, 0, 0, 0, []) := Eq.trans rfl rfl
theorem c_Md_comes_90 : c_Md_comes[90]? = some (147, 1, .ireturn, 0, 0, 0, 0, 0, []) := Eq.trans rfl rfl
theorem mt_Md_waitsFor : am_MT[122]? = some m_Md_waitsFor := rfl
theorem c_Md_waitsFor_0 : c_Md_waitsFor[0]? = some (0, 1, .aload_n 0, 0, 0, 0, 0, 0, []) := Eq.trans rfl rfl
theorem c_Md_waitsFor_1 : c_Md_waitsFor[1]? = some (1, 1, .iload_n 1, 1, 0, 0, 0, 0, []) := Eq.trans rfl rfl
theorem c_Md_waitsFor_2 : c_Md_waitsFor[2]? = some (2, 3, .invokevirtual 161, 123, 2, 8, 0, 932, []) := Eq.trans rfl rfl
theorem c_Md_waitsFor_3 : c_Md_waitsFor[3]? = some (5, 1, .istore_n 2, 2, 0, 0, 0, 0, []) := Eq.trans rfl rfl
theorem c_Md_waitsFor_4 : c_Md_waitsFor[4]? = some (6, 1, .iload_n 2, 2, 0, 0, 0, 0, []) := Eq.trans rfl rfl
theorem c_Md_waitsFor_5 : c_Md_waitsFor[5]? = some (7, 1, .iconst (-1), 0, 0, 0, 0, 0, []) := Eq.trans rfl rfl
theorem c_Md_waitsFor_6 : c_Md_waitsFor[6]? = some (8, 3, .if_icmp .eq 32, 25, 0, 0, 0, 0, []) := Eq.trans rfl rfl
theorem c_Md_waitsFor_7 : c_Md_waitsFor[7]? = some (11, 1, .aload_n 0, 0, 0, 0, 0, 0, []) := Eq.trans rfl rfl
theorem c_Md_waitsFor_8 : c_Md_waitsFor[8]? = some (12, 3, .getfield 47, 8, 14, 0, 0, 771, []) := Eq.trans rfl rfl
theorem c_Md_waitsFor_9 : c_Md_waitsFor[9]? = some (15, 1, .iconst 0, 0, 0, 0, 0, 0, []) := Eq.trans rfl rfl
theorem c_Md_waitsFor_10 : c_Md_waitsFor[10]? = some (16, 1, .iload_n 2, 2, 0, 0, 0, 0, []) := Eq.trans rfl rfl
theorem c_Md_waitsFor_11 : c_Md_waitsFor[11]? = some (17, 1, .iadd, 0, 0, 0, 0, 0, []) := Eq.trans rfl rfl
theorem c_Md_waitsFor_12 : c_Md_waitsFor[12]? = some (18, 1, .iaload, 0, 0, 0, 0, 0, []) := Eq.trans rfl rfl
theorem c_Md_waitsFor_13 : c_Md_waitsFor[13]? = some (19, 1, .iconst 1, 0, 0, 0, 0, 0, []) := Eq.trans rfl rfl
theorem c_Md_waitsFor_14 : c_Md_waitsFor[14]? = some (20, 3, .if_icmp .ne 20, 25, 0, 0, 0, 0, []) := Eq.trans rfl rfl
theorem c_Md_waitsFor_15 : c_Md_waitsFor[15]? = some (23, 1, .aload_n 0, 0, 0, 0, 0, 0, []) := Eq.trans rfl rfl
theorem c_Md_waitsFor_16 : c_Md_waitsFor[16]? = some (24, 3, .getfield 47, 8, 14, 0, 0, 771, []) := Eq.trans rfl rfl
theorem c_Md_waitsFor_17 : c_Md_waitsFor[17]? = some (27, 2, .bipush 6, 0, 0, 0, 0, 0, []) := Eq.trans rfl rfl
theorem c_Md_waitsFor_18 : c_Md_waitsFor[18]? = some (29, 1, .iload_n 2, 2, 0, 0, 0, 0, []) := Eq.trans rfl rfl
theorem c_Md_waitsFor_19 : c_Md_waitsFor[19]? = some (30, 1, .iadd, 0, 0, 0, 0, 0, []) := Eq.trans rfl rfl
theorem c_Md_waitsFor_20 : c_Md_waitsFor[20]? = some (31, 1, .iaload, 0, 0, 0, 0, 0, []) := Eq.trans rfl rfl
theorem c_Md_waitsFor_21 : c_Md_waitsFor[21]? = some (32, 1, .iload_n 1, 1, 0, 0, 0, 0, []) := Eq.trans rfl rfl
theorem c_Md_waitsFor_22 : c_Md_waitsFor[22]? = some (33, 3, .if_icmp .eq 7, 25, 0, 0, 0, 0, []) := Eq.trans rfl rfl
theorem c_Md_waitsFor_23 : c_Md_waitsFor[23]? = some (36, 1, .iload_n 2, 2, 0, 0, 0, 0, []) := Eq.trans rfl rfl
theorem c_Md_waitsFor_24 : c_Md_waitsFor[24]? = some (37, 3, .goto 4, 26, 0, 0, 0, 0, []) := Eq.trans rfl rfl
theorem c_Md_waitsFor_25 : c_Md_waitsFor[25]? = some (40, 1, .iconst (-1), 0, 0, 0, 0, 0, []) := Eq.trans rfl rfl
theorem c_Md_waitsFor_26 : c_Md_waitsFor[26]? = some (41, 1, .ireturn, 0, 0, 0, 0, 0, []) := Eq.trans rfl rfl
theorem mt_Md_hasStep : am_MT[121]? = some m_Md_hasStep := rfl
theorem c_Md_hasStep_0 : c_Md_hasStep[0]? = some (0, 1, .aload_n 0, 0, 0, 0, 0, 0, []) := Eq.trans rfl rfl
theorem c_Md_hasStep_1 : c_Md_hasStep[1]? = some (1, 3, .getfield 47, 8, 14, 0, 0, 771, []) := Eq.trans rfl rfl
theorem c_Md_hasStep_2 : c_Md_hasStep[2]? = some (4, 2, .bipush 36, 0, 0, 0, 0, 0, []) := Eq.trans rfl rfl
theorem c_Md_hasStep_3 : c_Md_hasStep[3]? = some (6, 1, .iload_n 1, 1, 0, 0, 0, 0, []) := Eq.trans rfl rfl
theorem c_Md_hasStep_4 : c_Md_hasStep[4]? = some (7, 1, .iadd, 0, 0, 0, 0, 0, []) := Eq.trans rfl rfl
theorem c_Md_hasStep_5 : c_Md_hasStep[5]? = some (8, 1, .iaload, 0, 0, 0, 0, 0, []) := Eq.trans rfl rfl
theorem c_Md_hasStep_6 : c_Md_hasStep[6]? = some (9, 3, .ifCond .ne 16, 14, 0, 0, 0, 0, []) := Eq.trans rfl rfl
theorem c_Md_hasStep_7 : c_Md_hasStep[7]? = some (12, 1, .aload_n 0, 0, 0, 0, 0, 0, []) := Eq.trans rfl rfl
theorem c_Md_hasStep_8 : c_Md_hasStep[8]? = some (13, 1, .iload_n 1, 1, 0, 0, 0, 0, []) := Eq.trans rfl rfl
theorem c_Md_hasStep_9 : c_Md_hasStep[9]? = some (14, 3, .invokevirtual 164, 122, 2, 8, 0, 928, []) := Eq.trans rfl rfl
theorem c_Md_hasStep_10 : c_Md_hasStep[10]? = some (17, 1, .iconst (-1), 0, 0, 0, 0, 0, []) := Eq.trans rfl rfl
theorem c_Md_hasStep_11 : c_Md_hasStep[11]? = some (18, 3, .if_icmp .ne 7, 14, 0, 0, 0, 0, []) := Eq.trans rfl rfl
theorem c_Md_hasStep_12 : c_Md_hasStep[12]? = some (21, 1, .iconst 1, 0, 0, 0, 0, 0, []) := Eq.trans rfl rfl
theorem c_Md_hasStep_13 : c_Md_hasStep[13]? = some (22, 3, .goto 4, 15, 0, 0, 0, 0, []) := Eq.trans rfl rfl
theorem c_Md_hasStep_14 : c_Md_hasStep[14]? = some (25, 1, .iconst 0, 0, 0, 0, 0, 0, []) := Eq.trans rfl rfl
theorem c_Md_hasStep_15 : c_Md_hasStep[15]? = some (26, 1, .ireturn, 0, 0, 0, 3, 0, []) := Eq.trans rfl rfl
theorem mt_Md_endOf : am_MT[144]? = some m_Md_endOf := rfl
theorem c_Md_endOf_0 : c_Md_endOf[0]? = some (0, 1, .aload_n 0, 0, 0, 0, 0, 0, []) := Eq.trans rfl rfl
theorem c_Md_endOf_1 : c_Md_endOf[1]? = some (1, 3, .getfield 47, 8, 14, 0, 0, 771, []) := Eq.trans rfl rfl
theorem c_Md_endOf_2 : c_Md_endOf[2]? = some (4, 2, .bipush 36, 0, 0, 0, 0, 0, []) := Eq.trans rfl rfl
theorem c_Md_endOf_3 : c_Md_endOf[3]? = some (6, 1, .iload_n 1, 1, 0, 0, 0, 0, []) := Eq.trans rfl rfl
theorem c_Md_endOf_4 : c_Md_endOf[4]? = some (7, 1, .iadd, 0, 0, 0, 0, 0, []) := Eq.trans rfl rfl
theorem c_Md_endOf_5 : c_Md_endOf[5]? = some (8, 1, .iaload, 0, 0, 0, 0, 0, []) := Eq.trans rfl rfl
theorem c_Md_endOf_6 : c_Md_endOf[6]? = some (9, 3, .ifCond .eq 15, 14, 0, 0, 0, 0, []) := Eq.trans rfl rfl
theorem c_Md_endOf_7 : c_Md_endOf[7]? = some (12, 1, .aload_n 0, 0, 0, 0, 0, 0, []) := Eq.trans rfl rfl
theorem c_Md_endOf_8 : c_Md_endOf[8]? = some (13, 3, .getfield 47, 8, 14, 0, 0, 771, []) := Eq.trans rfl rfl
theorem c_Md_endOf_9 : c_Md_endOf[9]? = some (16, 2, .bipush 36, 0, 0, 0, 0, 0, []) := Eq.trans rfl rfl
theorem c_Md_endOf_10 : c_Md_endOf[10]? = some (18, 1, .iload_n 1, 1, 0, 0, 0, 0, []) := Eq.trans rfl rfl
theorem c_Md_endOf_11 : c_Md_endOf[11]? = some (19, 1, .iadd, 0, 0, 0, 0, 0, []) := Eq.trans rfl rfl
theorem c_Md_endOf_12 : c_Md_endOf[12]? = some (20, 1, .iaload, 0, 0, 0, 0, 0, []) := Eq.trans rfl rfl
theorem c_Md_endOf_13 : c_Md_endOf[13]? = some (21, 3, .goto 17, 22, 0, 0, 0, 0, []) := Eq.trans rfl rfl
theorem c_Md_endOf_14 : c_Md_endOf[14]? = some (24, 1, .aload_n 0, 0, 0, 0, 0, 0, []) := Eq.trans rfl rfl
theorem c_Md_endOf_15 : c_Md_endOf[15]? = some (25, 1, .iload_n 1, 1, 0, 0, 0, 0, []) := Eq.trans rfl rfl
theorem c_Md_endOf_16 : c_Md_endOf[16]? = some (26, 3, .invokevirtual 164, 122, 2, 8, 0, 928, []) := Eq.trans rfl rfl
theorem c_Md_endOf_17 : c_Md_endOf[17]? = some (29, 1, .iconst (-1), 0, 0, 0, 0, 0, []) := Eq.trans rfl rfl
theorem c_Md_endOf_18 : c_Md_endOf[18]? = some (30, 3, .if_icmp .eq 7, 21, 0, 0, 0, 0, []) := Eq.trans rfl rfl
theorem c_Md_endOf_19 : c_Md_endOf[19]? = some (33, 1, .iconst 1, 0, 0, 0, 0, 0, []) := Eq.trans rfl rfl
theorem c_Md_endOf_20 : c_Md_endOf[20]? = some (34, 3, .goto 4, 22, 0, 0, 0, 0, []) := Eq.trans rfl rfl
theorem c_Md_endOf_21 : c_Md_endOf[21]? = some (37, 1, .iconst 0, 0, 0, 0, 0, 0, []) := Eq.trans rfl rfl
theorem c_Md_endOf_22 : c_Md_endOf[22]? = some (38, 1, .ireturn, 0, 0, 0, 0, 0, []) := Eq.trans rfl rfl
def rs_at (F : Nat → Int → Int) (s : Int → Int) : Prop := (∀ k : Int, 0 ≤ k ∧ k < 6 → s (24 + k) ≤ F 8 k) ∧ (∀ k : Int, 0 ≤ k ∧ k < 3 → s (39 + k) ≤ F 8 (6 + k))
theorem sp_top_rg {s : Int → Int} {h : Int} (hs : rs_rg s) (hh : 0 ≤ h ∧ h < 3) : -1 ≤ sp_top s h ∧ sp_top s h ≤ 5 := by
  unfold sp_top
  have e1 := hs.2.1 h hh
  split
  · decide
  · have e2 := hs.2.2 (6 * h + s (45 + h) - 1) (by omega)
    rw [show 48 + 6 * h + s (45 + h) - 1 = 48 + (6 * h + s (45 + h) - 1) by omega]
    omega
theorem sp_nx_rg {s li : Int → Int} {h t m : Int} (hm : m ≤ 6) : ∀ (n : Nat) (i : Int), 0 ≤ i → i ≤ 6 → 0 ≤ sp_nx s li h t m n i ∧ sp_nx s li h t m n i ≤ 6 := by
  intro n
  induction n with
  | zero => intro i h1 h2; exact ⟨h1, h2⟩
  | succ n ih =>
    intro i h1 h2
    unfold sp_nx
    split
    · exact ih (i + 1) (by omega) (by omega)
    · exact ⟨h1, h2⟩
theorem sp_asked_rg {I : Nat → Int} {F : Nat → Int → Int} (hr : md_rg I F) {b k : Int} (hb : 0 ≤ b ∧ b < 9) (hk : 0 ≤ k ∧ k < 5) : sp_asked F b k = -5 ∨ -1 ≤ sp_asked F b k ∧ sp_asked F b k ≤ 5 := by
  have e1 := hr.2.2.2.2.2 (5 * b + k) (by omega)
  have e2 := hr.2.1 (F 10 (5 * b + k)) (by omega)
  unfold sp_asked
  (repeat' split) <;> omega
def sp_comes (F : Nat → Int → Int) (s : Int → Int) (h : Int) : Int :=
  if s (36 + h) ≠ 0 then -1 else
  if sp_top s h ≠ -1 ∧ 0 ≤ s (18 + sp_top s h) then (if sp_nextIn F s h (sp_top s h) < F 6 (sp_top s h) then F 7 (6 * sp_top s h + sp_nextIn F s h (sp_top s h)) else -1) else
  if sp_top s h = -1 then (if s (39 + h) = F 8 (6 + h) then -1 else if sp_asked F (6 + h) (s (39 + h)) = -5 then -1 else sp_asked F (6 + h) (s (39 + h))) else
  if s (24 + sp_top s h) = F 8 (sp_top s h) then -1 else if sp_asked F (sp_top s h) (s (24 + sp_top s h)) = -5 then -1 else sp_asked F (sp_top s h) (s (24 + sp_top s h))
theorem ct_comes (d : Nat) (hd : 4 ≤ d) (h : am_H) (o : Nat) (I : Nat → Int) (F : Nat → Int → Int) (H : md_at h o I F) (hr : md_rg I F) (hs : rs_rg (F 13)) (ha : rs_at F (F 13)) (th : Int) (hh : 0 ≤ th ∧ th < 3) : am_Ct am_df am_MT d 123 [.ref o, .int (iI th)] h (fun r h' => r = some (.int (iI (sp_comes F (F 13) th))) ∧ h' = h) := by
  have H' := H
  obtain ⟨h0, hO, hA⟩ := H'
  have e1 := hs.2.1 th hh
  have e2 := sp_top_rg hs hh
  obtain ⟨d, rfl⟩ : ∃ e, d = e + 1 := ⟨d - 1, by omega⟩
  refine am_ct_of2 mt_Md_comes (Nat.le_of_ble_eq_true rfl) ?_
  simp only [ar_nil, ar_int, ar_ref, ar_long, Nat.reduceAdd]
  refine am_go_of 60 [11, 26, 82] _ c_Md_comes_0 ?_
  simp (maxSteps := 2000000) (disch := omega) only [c_Md_comes_0, c_Md_comes_1, c_Md_comes_2, c_Md_comes_3, c_Md_comes_4, c_Md_comes_5, c_Md_comes_6, c_Md_comes_7, c_Md_comes_8, c_Md_comes_9, c_Md_comes_10, c_Md_comes_11, c_Md_comes_12, c_Md_comes_13, c_Md_comes_14, c_Md_comes_15, c_Md_comes_16, c_Md_comes_17, c_Md_comes_18, c_Md_comes_19, c_Md_comes_20, c_Md_comes_21, c_Md_comes_22, c_Md_comes_23, c_Md_comes_24, c_Md_comes_25, c_Md_comes_26, c_Md_comes_27, c_Md_comes_28, c_Md_comes_29, c_Md_comes_30, c_Md_comes_31, c_Md_comes_32, c_Md_comes_33, c_Md_comes_34, c_Md_comes_35, c_Md_comes_36, c_Md_comes_37, c_Md_comes_38, c_Md_comes_39, c_Md_comes_40, c_Md_comes_41, c_Md_comes_42, c_Md_comes_43, c_Md_comes_44, c_Md_comes_45, c_Md_comes_46, c_Md_comes_47, c_Md_comes_48, c_Md_comes_49, c_Md_comes_50, c_Md_comes_51, c_Md_comes_52, c_Md_comes_53, c_Md_comes_54, c_Md_comes_55, c_Md_comes_56, c_Md_comes_57, c_Md_comes_58, c_Md_comes_59, c_Md_comes_60, c_Md_comes_61, c_Md_comes_62, c_Md_comes_63, c_Md_comes_64, c_Md_comes_65, c_Md_comes_66, c_Md_comes_67, c_Md_comes_68, c_Md_comes_69, c_Md_comes_70, c_Md_comes_71, c_Md_comes_72, c_Md_comes_73, c_Md_comes_74, c_Md_comes_75, c_Md_comes_76, c_Md_comes_77, c_Md_comes_78, c_Md_comes_79, c_Md_comes_80, c_Md_comes_81, c_Md_comes_82, c_Md_comes_83, c_Md_comes_84, c_Md_comes_85, c_Md_comes_86, c_Md_comes_87, c_Md_comes_88, c_Md_comes_89, c_Md_comes_90, sx_aload_n, sx_bipush, sx_getfield, sx_goto, sx_iadd, sx_iaload, sx_iconst, sx_ifCond_eq, sx_ifCond_lt, sx_if_icmp_eq, sx_if_icmp_ge, sx_if_icmp_ne, sx_iload, sx_iload_n, sx_imul, sx_ireturn, sx_istore, sx_istore_n, sx_zreturn, am_W_s, am_W_0, am_mm_some, List.mem_cons, or_false, false_or, or_self, or_true, true_or, reduceIte, if_false, if_true, am_o_some, am_o_none, am_o_bad, am_o_good, am_ldi_hit, am_ldi_miss, am_lda_hit, am_lda_miss, am_ldl_hit, am_ldl_miss, am_inc_eq, am_inc_hit, am_inc_miss, am_ob_hit, am_fd_0, am_fd_s, am_ai_hit, am_ab_3, am_al_hit, am_aq_4, am_al0_hit, am_put_1, am_put_2, am_put_put, am_up_hit, am_up_miss, am_s1_eq, am_s2_eq, am_fl_nil, am_fl_hit, am_fl_int, am_fl_ref, am_fl_long, am_fl_longx, am_fl2_nil, am_fl2_hit, am_fl2_hit1, am_fl2_int, am_fl2_ref, am_fl2_long, List.not_mem_nil, not_false_eq_true, ne_eq, Nat.reduceAdd, Nat.reduceEqDiff, Nat.zero_add, Nat.add_left_cancel_iff, List.set_cons_zero, List.set_cons_succ, List.length_cons, List.length_nil, Nat.reduceLT, am_ft_i, am_ft_r, am_ft_z, and_true, true_and, Option.toList_some, Option.toList_none, List.cons_append, List.nil_append, List.drop_succ_cons, List.drop_zero, iI_c, iI_b, iI_s, iI_n, iI_add, iI_sub, iI_mul, iI_neg, iI_nle, iI_ix, iI_eq0, iI_eq1, iI_lt0, iI_0lt, iI_le0, iI_0le, iI_eq, iI_lt, iI_le, iI_upd, iI_updZ, hO, hA, md_fs_len, md_f0, md_f1, md_f2, md_f3, md_f4, md_f5, md_f6, md_f7, md_f8, md_f9, md_f10, md_f11, md_f12, md_f13, md_f14, md_f15, md_f16, md_f17, md_f18, md_f19, md_f20, md_f21, md_f22, md_f23, md_f24, md_f25, md_f26, md_f27, md_f28, md_f29, md_f30, md_f31, md_f32, md_f33, md_f34, md_f35, md_s0, md_s1, md_s15, md_s16, md_s17, md_s23, md_s24, md_s31, md_t1, md_t2, md_t3, md_t4, md_t5, md_t6, md_t7, md_t8, md_t9, md_t10, md_t11, md_t12, md_t13, md_t14, md_t15, md_t16, md_t17, md_t18, md_t19, md_t20, md_t21, md_t22, md_t23, md_t24, md_t25, md_t26, md_t27, md_t28, md_l1, md_l2, md_l3, md_l4, md_l5, md_l6, md_l7, md_l8, md_l9, md_l10, md_l11, md_l12, md_l13, md_l14, md_l15, md_l16, md_l17, md_l18, md_l19, md_l20, md_l21, md_l22, md_l23, md_l24, md_l25, md_l26, md_l27, md_l28]
  refine ⟨by omega, ?_⟩
  split
  · rename_i h1
    refine am_go_call c_Md_comes_11 (by decide) (by decide) (by simp [am_can, am_kd, Value.category, hO]) ?_
    refine (ct_top d (by omega) h o I F H th hh (by omega)).mono (fun r h' hr9 => ?_)
    obtain ⟨rfl, rfl⟩ := hr9
    by_cases e3 : sp_top (F 13) th = -1
    · rw [e3]
      have e4 := ha.2 th hh
      have e5 := hr.2.2.2.2.1 (6 + th) (by omega)
      refine am_go_of 34 [11, 26, 82] _ c_Md_comes_12 ?_
      simp (maxSteps := 2000000) (disch := omega) only [c_Md_comes_0, c_Md_comes_1, c_Md_comes_2, c_Md_comes_3, c_Md_comes_4, c_Md_comes_5, c_Md_comes_6, c_Md_comes_7, c_Md_comes_8, c_Md_comes_9, c_Md_comes_10, c_Md_comes_11, c_Md_comes_12, c_Md_comes_13, c_Md_comes_14, c_Md_comes_15, c_Md_comes_16, c_Md_comes_17, c_Md_comes_18, c_Md_comes_19, c_Md_comes_20, c_Md_comes_21, c_Md_comes_22, c_Md_comes_23, c_Md_comes_24, c_Md_comes_25, c_Md_comes_26, c_Md_comes_27, c_Md_comes_28, c_Md_comes_29, c_Md_comes_30, c_Md_comes_31, c_Md_comes_32, c_Md_comes_33, c_Md_comes_34, c_Md_comes_35, c_Md_comes_36, c_Md_comes_37, c_Md_comes_38, c_Md_comes_39, c_Md_comes_40, c_Md_comes_41, c_Md_comes_42, c_Md_comes_43, c_Md_comes_44, c_Md_comes_45, c_Md_comes_46, c_Md_comes_47, c_Md_comes_48, c_Md_comes_49, c_Md_comes_50, c_Md_comes_51, c_Md_comes_52, c_Md_comes_53, c_Md_comes_54, c_Md_comes_55, c_Md_comes_56, c_Md_comes_57, c_Md_comes_58, c_Md_comes_59, c_Md_comes_60, c_Md_comes_61, c_Md_comes_62, c_Md_comes_63, c_Md_comes_64, c_Md_comes_65, c_Md_comes_66, c_Md_comes_67, c_Md_comes_68, c_Md_comes_69, c_Md_comes_70, c_Md_comes_71, c_Md_comes_72, c_Md_comes_73, c_Md_comes_74, c_Md_comes_75, c_Md_comes_76, c_Md_comes_77, c_Md_comes_78, c_Md_comes_79, c_Md_comes_80, c_Md_comes_81, c_Md_comes_82, c_Md_comes_83, c_Md_comes_84, c_Md_comes_85, c_Md_comes_86, c_Md_comes_87, c_Md_comes_88, c_Md_comes_89, c_Md_comes_90, sx_aload_n, sx_bipush, sx_getfield, sx_goto, sx_iadd, sx_iaload, sx_iconst, sx_ifCond_eq, sx_ifCond_lt, sx_if_icmp_eq, sx_if_icmp_ge, sx_if_icmp_ne, sx_iload, sx_iload_n, sx_imul, sx_ireturn, sx_istore, sx_istore_n, sx_zreturn, am_W_s, am_W_0, am_mm_some, List.mem_cons, or_false, false_or, or_self, or_true, true_or, reduceIte, if_false, if_true, am_o_some, am_o_none, am_o_bad, am_o_good, am_ldi_hit, am_ldi_miss, am_lda_hit, am_lda_miss, am_ldl_hit, am_ldl_miss, am_inc_eq, am_inc_hit, am_inc_miss, am_ob_hit, am_fd_0, am_fd_s, am_ai_hit, am_ab_3, am_al_hit, am_aq_4, am_al0_hit, am_put_1, am_put_2, am_put_put, am_up_hit, am_up_miss, am_s1_eq, am_s2_eq, am_fl_nil, am_fl_hit, am_fl_int, am_fl_ref, am_fl_long, am_fl_longx, am_fl2_nil, am_fl2_hit, am_fl2_hit1, am_fl2_int, am_fl2_ref, am_fl2_long, List.not_mem_nil, not_false_eq_true, ne_eq, Nat.reduceAdd, Nat.reduceEqDiff, Nat.zero_add, Nat.add_left_cancel_iff, List.set_cons_zero, List.set_cons_succ, List.length_cons, List.length_nil, Nat.reduceLT, am_ft_i, am_ft_r, am_ft_z, and_true, true_and, Option.toList_some, Option.toList_none, List.cons_append, List.nil_append, List.drop_succ_cons, List.drop_zero, iI_c, iI_b, iI_s, iI_n, iI_add, iI_sub, iI_mul, iI_neg, iI_nle, iI_ix, iI_eq0, iI_eq1, iI_lt0, iI_0lt, iI_le0, iI_0le, iI_eq, iI_lt, iI_le, iI_upd, iI_updZ, hO, hA, Int.reduceNeg, md_fs_len, md_f0, md_f1, md_f2, md_f3, md_f4, md_f5, md_f6, md_f7, md_f8, md_f9, md_f10, md_f11, md_f12, md_f13, md_f14, md_f15, md_f16, md_f17, md_f18, md_f19, md_f20, md_f21, md_f22, md_f23, md_f24, md_f25, md_f26, md_f27, md_f28, md_f29, md_f30, md_f31, md_f32, md_f33, md_f34, md_f35, md_s0, md_s1, md_s15, md_s16, md_s17, md_s23, md_s24, md_s31, md_t1, md_t2, md_t3, md_t4, md_t5, md_t6, md_t7, md_t8, md_t9, md_t10, md_t11, md_t12, md_t13, md_t14, md_t15, md_t16, md_t17, md_t18, md_t19, md_t20, md_t21, md_t22, md_t23, md_t24, md_t25, md_t26, md_t27, md_t28, md_l1, md_l2, md_l3, md_l4, md_l5, md_l6, md_l7, md_l8, md_l9, md_l10, md_l11, md_l12, md_l13, md_l14, md_l15, md_l16, md_l17, md_l18, md_l19, md_l20, md_l21, md_l22, md_l23, md_l24, md_l25, md_l26, md_l27, md_l28]
      refine ⟨by omega, by omega, ?_⟩
      split
      · unfold sp_comes
        (repeat' split) <;> first | rfl | (exfalso; omega)
      · have e6 := sp_asked_rg hr (b := 6 + th) (k := F 13 (39 + th)) (by omega) (by omega)
        refine am_go_call c_Md_comes_82 (by decide) (by decide) (by simp [am_can, am_kd, Value.category, hO]) ?_
        refine (ct_asked d (by omega) h' o I F H hr (6 + th) (F 13 (39 + th)) (by omega) (by omega)).mono (fun r h' hr9 => ?_)
        obtain ⟨rfl, rfl⟩ := hr9
        refine am_go_of 60 [11, 26, 82] _ c_Md_comes_83 ?_
        simp (maxSteps := 2000000) (disch := omega) only [c_Md_comes_0, c_Md_comes_1, c_Md_comes_2, c_Md_comes_3, c_Md_comes_4, c_Md_comes_5, c_Md_comes_6, c_Md_comes_7, c_Md_comes_8, c_Md_comes_9, c_Md_comes_10, c_Md_comes_11, c_Md_comes_12, c_Md_comes_13, c_Md_comes_14, c_Md_comes_15, c_Md_comes_16, c_Md_comes_17, c_Md_comes_18, c_Md_comes_19, c_Md_comes_20, c_Md_comes_21, c_Md_comes_22, c_Md_comes_23, c_Md_comes_24, c_Md_comes_25, c_Md_comes_26, c_Md_comes_27, c_Md_comes_28, c_Md_comes_29, c_Md_comes_30, c_Md_comes_31, c_Md_comes_32, c_Md_comes_33, c_Md_comes_34, c_Md_comes_35, c_Md_comes_36, c_Md_comes_37, c_Md_comes_38, c_Md_comes_39, c_Md_comes_40, c_Md_comes_41, c_Md_comes_42, c_Md_comes_43, c_Md_comes_44, c_Md_comes_45, c_Md_comes_46, c_Md_comes_47, c_Md_comes_48, c_Md_comes_49, c_Md_comes_50, c_Md_comes_51, c_Md_comes_52, c_Md_comes_53, c_Md_comes_54, c_Md_comes_55, c_Md_comes_56, c_Md_comes_57, c_Md_comes_58, c_Md_comes_59, c_Md_comes_60, c_Md_comes_61, c_Md_comes_62, c_Md_comes_63, c_Md_comes_64, c_Md_comes_65, c_Md_comes_66, c_Md_comes_67, c_Md_comes_68, c_Md_comes_69, c_Md_comes_70, c_Md_comes_71, c_Md_comes_72, c_Md_comes_73, c_Md_comes_74, c_Md_comes_75, c_Md_comes_76, c_Md_comes_77, c_Md_comes_78, c_Md_comes_79, c_Md_comes_80, c_Md_comes_81, c_Md_comes_82, c_Md_comes_83, c_Md_comes_84, c_Md_comes_85, c_Md_comes_86, c_Md_comes_87, c_Md_comes_88, c_Md_comes_89, c_Md_comes_90, sx_aload_n, sx_bipush, sx_getfield, sx_goto, sx_iadd, sx_iaload, sx_iconst, sx_ifCond_eq, sx_ifCond_lt, sx_if_icmp_eq, sx_if_icmp_ge, sx_if_icmp_ne, sx_iload, sx_iload_n, sx_imul, sx_ireturn, sx_istore, sx_istore_n, sx_zreturn, am_W_s, am_W_0, am_mm_some, List.mem_cons, or_false, false_or, or_self, or_true, true_or, reduceIte, if_false, if_true, am_o_some, am_o_none, am_o_bad, am_o_good, am_ldi_hit, am_ldi_miss, am_lda_hit, am_lda_miss, am_ldl_hit, am_ldl_miss, am_inc_eq, am_inc_hit, am_inc_miss, am_ob_hit, am_fd_0, am_fd_s, am_ai_hit, am_ab_3, am_al_hit, am_aq_4, am_al0_hit, am_put_1, am_put_2, am_put_put, am_up_hit, am_up_miss, am_s1_eq, am_s2_eq, am_fl_nil, am_fl_hit, am_fl_int, am_fl_ref, am_fl_long, am_fl_longx, am_fl2_nil, am_fl2_hit, am_fl2_hit1, am_fl2_int, am_fl2_ref, am_fl2_long, List.not_mem_nil, not_false_eq_true, ne_eq, Nat.reduceAdd, Nat.reduceEqDiff, Nat.zero_add, Nat.add_left_cancel_iff, List.set_cons_zero, List.set_cons_succ, List.length_cons, List.length_nil, Nat.reduceLT, am_ft_i, am_ft_r, am_ft_z, and_true, true_and, Option.toList_some, Option.toList_none, List.cons_append, List.nil_append, List.drop_succ_cons, List.drop_zero, iI_c, iI_b, iI_s, iI_n, iI_add, iI_sub, iI_mul, iI_neg, iI_nle, iI_ix, iI_eq0, iI_eq1, iI_lt0, iI_0lt, iI_le0, iI_0le, iI_eq, iI_lt, iI_le, iI_upd, iI_updZ, hO, hA, md_fs_len, md_f0, md_f1, md_f2, md_f3, md_f4, md_f5, md_f6, md_f7, md_f8, md_f9, md_f10, md_f11, md_f12, md_f13, md_f14, md_f15, md_f16, md_f17, md_f18, md_f19, md_f20, md_f21, md_f22, md_f23, md_f24, md_f25, md_f26, md_f27, md_f28, md_f29, md_f30, md_f31, md_f32, md_f33, md_f34, md_f35, md_s0, md_s1, md_s15, md_s16, md_s17, md_s23, md_s24, md_s31, md_t1, md_t2, md_t3, md_t4, md_t5, md_t6, md_t7, md_t8, md_t9, md_t10, md_t11, md_t12, md_t13, md_t14, md_t15, md_t16, md_t17, md_t18, md_t19, md_t20, md_t21, md_t22, md_t23, md_t24, md_t25, md_t26, md_t27, md_t28, md_l1, md_l2, md_l3, md_l4, md_l5, md_l6, md_l7, md_l8, md_l9, md_l10, md_l11, md_l12, md_l13, md_l14, md_l15, md_l16, md_l17, md_l18, md_l19, md_l20, md_l21, md_l22, md_l23, md_l24, md_l25, md_l26, md_l27, md_l28]
        repeat' (first | (refine And.intro (by omega) ?_) | split)
        all_goals (unfold sp_comes; (repeat' split) <;> first | rfl | (exfalso; omega))
    · have e7 := hs.1 (sp_top (F 13) th) (by omega)
      have e8 := hr.2.1 (sp_top (F 13) th) (by omega)
      have e5 := hr.2.2.2.2.1 (sp_top (F 13) th) (by omega)
      have e4 := ha.1 (sp_top (F 13) th) (by omega)
      by_cases e9 : 0 ≤ F 13 (18 + sp_top (F 13) th)
      · refine am_go_of 34 [11, 26, 82] _ c_Md_comes_12 ?_
        simp (maxSteps := 2000000) (disch := omega) only [c_Md_comes_0, c_Md_comes_1, c_Md_comes_2, c_Md_comes_3, c_Md_comes_4, c_Md_comes_5, c_Md_comes_6, c_Md_comes_7, c_Md_comes_8, c_Md_comes_9, c_Md_comes_10, c_Md_comes_11, c_Md_comes_12, c_Md_comes_13, c_Md_comes_14, c_Md_comes_15, c_Md_comes_16, c_Md_comes_17, c_Md_comes_18, c_Md_comes_19, c_Md_comes_20, c_Md_comes_21, c_Md_comes_22, c_Md_comes_23, c_Md_comes_24, c_Md_comes_25, c_Md_comes_26, c_Md_comes_27, c_Md_comes_28, c_Md_comes_29, c_Md_comes_30, c_Md_comes_31, c_Md_comes_32, c_Md_comes_33, c_Md_comes_34, c_Md_comes_35, c_Md_comes_36, c_Md_comes_37, c_Md_comes_38, c_Md_comes_39, c_Md_comes_40, c_Md_comes_41, c_Md_comes_42, c_Md_comes_43, c_Md_comes_44, c_Md_comes_45, c_Md_comes_46, c_Md_comes_47, c_Md_comes_48, c_Md_comes_49, c_Md_comes_50, c_Md_comes_51, c_Md_comes_52, c_Md_comes_53, c_Md_comes_54, c_Md_comes_55, c_Md_comes_56, c_Md_comes_57, c_Md_comes_58, c_Md_comes_59, c_Md_comes_60, c_Md_comes_61, c_Md_comes_62, c_Md_comes_63, c_Md_comes_64, c_Md_comes_65, c_Md_comes_66, c_Md_comes_67, c_Md_comes_68, c_Md_comes_69, c_Md_comes_70, c_Md_comes_71, c_Md_comes_72, c_Md_comes_73, c_Md_comes_74, c_Md_comes_75, c_Md_comes_76, c_Md_comes_77, c_Md_comes_78, c_Md_comes_79, c_Md_comes_80, c_Md_comes_81, c_Md_comes_82, c_Md_comes_83, c_Md_comes_84, c_Md_comes_85, c_Md_comes_86, c_Md_comes_87, c_Md_comes_88, c_Md_comes_89, c_Md_comes_90, sx_aload_n, sx_bipush, sx_getfield, sx_goto, sx_iadd, sx_iaload, sx_iconst, sx_ifCond_eq, sx_ifCond_lt, sx_if_icmp_eq, sx_if_icmp_ge, sx_if_icmp_ne, sx_iload, sx_iload_n, sx_imul, sx_ireturn, sx_istore, sx_istore_n, sx_zreturn, am_W_s, am_W_0, am_mm_some, List.mem_cons, or_false, false_or, or_self, or_true, true_or, reduceIte, if_false, if_true, am_o_some, am_o_none, am_o_bad, am_o_good, am_ldi_hit, am_ldi_miss, am_lda_hit, am_lda_miss, am_ldl_hit, am_ldl_miss, am_inc_eq, am_inc_hit, am_inc_miss, am_ob_hit, am_fd_0, am_fd_s, am_ai_hit, am_ab_3, am_al_hit, am_aq_4, am_al0_hit, am_put_1, am_put_2, am_put_put, am_up_hit, am_up_miss, am_s1_eq, am_s2_eq, am_fl_nil, am_fl_hit, am_fl_int, am_fl_ref, am_fl_long, am_fl_longx, am_fl2_nil, am_fl2_hit, am_fl2_hit1, am_fl2_int, am_fl2_ref, am_fl2_long, List.not_mem_nil, not_false_eq_true, ne_eq, Nat.reduceAdd, Nat.reduceEqDiff, Nat.zero_add, Nat.add_left_cancel_iff, List.set_cons_zero, List.set_cons_succ, List.length_cons, List.length_nil, Nat.reduceLT, am_ft_i, am_ft_r, am_ft_z, and_true, true_and, Option.toList_some, Option.toList_none, List.cons_append, List.nil_append, List.drop_succ_cons, List.drop_zero, iI_c, iI_b, iI_s, iI_n, iI_add, iI_sub, iI_mul, iI_neg, iI_nle, iI_ix, iI_eq0, iI_eq1, iI_lt0, iI_0lt, iI_le0, iI_0le, iI_eq, iI_lt, iI_le, iI_upd, iI_updZ, hO, hA, e3, Int.not_lt.mpr e9, md_fs_len, md_f0, md_f1, md_f2, md_f3, md_f4, md_f5, md_f6, md_f7, md_f8, md_f9, md_f10, md_f11, md_f12, md_f13, md_f14, md_f15, md_f16, md_f17, md_f18, md_f19, md_f20, md_f21, md_f22, md_f23, md_f24, md_f25, md_f26, md_f27, md_f28, md_f29, md_f30, md_f31, md_f32, md_f33, md_f34, md_f35, md_s0, md_s1, md_s15, md_s16, md_s17, md_s23, md_s24, md_s31, md_t1, md_t2, md_t3, md_t4, md_t5, md_t6, md_t7, md_t8, md_t9, md_t10, md_t11, md_t12, md_t13, md_t14, md_t15, md_t16, md_t17, md_t18, md_t19, md_t20, md_t21, md_t22, md_t23, md_t24, md_t25, md_t26, md_t27, md_t28, md_l1, md_l2, md_l3, md_l4, md_l5, md_l6, md_l7, md_l8, md_l9, md_l10, md_l11, md_l12, md_l13, md_l14, md_l15, md_l16, md_l17, md_l18, md_l19, md_l20, md_l21, md_l22, md_l23, md_l24, md_l25, md_l26, md_l27, md_l28]
        refine ⟨by omega, ?_⟩
        refine am_go_call c_Md_comes_26 (by decide) (by decide) (by simp [am_can, am_kd, Value.category, hO]) ?_
        refine (ct_nextIn d (by omega) h' o I F H hr hs th (sp_top (F 13) th) hh (by omega) e9).mono (fun r h' hr9 => ?_)
        obtain ⟨rfl, rfl⟩ := hr9
        have e6 : 0 ≤ sp_nextIn F (F 13) th (sp_top (F 13) th) ∧ sp_nextIn F (F 13) th (sp_top (F 13) th) ≤ 6 := sp_nx_rg (by omega) 6 _ (by omega) (by omega)
        refine am_go_of 34 [11, 26, 82] _ c_Md_comes_27 ?_
        simp (maxSteps := 2000000) (disch := omega) only [c_Md_comes_0, c_Md_comes_1, c_Md_comes_2, c_Md_comes_3, c_Md_comes_4, c_Md_comes_5, c_Md_comes_6, c_Md_comes_7, c_Md_comes_8, c_Md_comes_9, c_Md_comes_10, c_Md_comes_11, c_Md_comes_12, c_Md_comes_13, c_Md_comes_14, c_Md_comes_15, c_Md_comes_16, c_Md_comes_17, c_Md_comes_18, c_Md_comes_19, c_Md_comes_20, c_Md_comes_21, c_Md_comes_22, c_Md_comes_23, c_Md_comes_24, c_Md_comes_25, c_Md_comes_26, c_Md_comes_27, c_Md_comes_28, c_Md_comes_29, c_Md_comes_30, c_Md_comes_31, c_Md_comes_32, c_Md_comes_33, c_Md_comes_34, c_Md_comes_35, c_Md_comes_36, c_Md_comes_37, c_Md_comes_38, c_Md_comes_39, c_Md_comes_40, c_Md_comes_41, c_Md_comes_42, c_Md_comes_43, c_Md_comes_44, c_Md_comes_45, c_Md_comes_46, c_Md_comes_47, c_Md_comes_48, c_Md_comes_49, c_Md_comes_50, c_Md_comes_51, c_Md_comes_52, c_Md_comes_53, c_Md_comes_54, c_Md_comes_55, c_Md_comes_56, c_Md_comes_57, c_Md_comes_58, c_Md_comes_59, c_Md_comes_60, c_Md_comes_61, c_Md_comes_62, c_Md_comes_63, c_Md_comes_64, c_Md_comes_65, c_Md_comes_66, c_Md_comes_67, c_Md_comes_68, c_Md_comes_69, c_Md_comes_70, c_Md_comes_71, c_Md_comes_72, c_Md_comes_73, c_Md_comes_74, c_Md_comes_75, c_Md_comes_76, c_Md_comes_77, c_Md_comes_78, c_Md_comes_79, c_Md_comes_80, c_Md_comes_81, c_Md_comes_82, c_Md_comes_83, c_Md_comes_84, c_Md_comes_85, c_Md_comes_86, c_Md_comes_87, c_Md_comes_88, c_Md_comes_89, c_Md_comes_90, sx_aload_n, sx_bipush, sx_getfield, sx_goto, sx_iadd, sx_iaload, sx_iconst, sx_ifCond_eq, sx_ifCond_lt, sx_if_icmp_eq, sx_if_icmp_ge, sx_if_icmp_ne, sx_iload, sx_iload_n, sx_imul, sx_ireturn, sx_istore, sx_istore_n, sx_zreturn, am_W_s, am_W_0, am_mm_some, List.mem_cons, or_false, false_or, or_self, or_true, true_or, reduceIte, if_false, if_true, am_o_some, am_o_none, am_o_bad, am_o_good, am_ldi_hit, am_ldi_miss, am_lda_hit, am_lda_miss, am_ldl_hit, am_ldl_miss, am_inc_eq, am_inc_hit, am_inc_miss, am_ob_hit, am_fd_0, am_fd_s, am_ai_hit, am_ab_3, am_al_hit, am_aq_4, am_al0_hit, am_put_1, am_put_2, am_put_put, am_up_hit, am_up_miss, am_s1_eq, am_s2_eq, am_fl_nil, am_fl_hit, am_fl_int, am_fl_ref, am_fl_long, am_fl_longx, am_fl2_nil, am_fl2_hit, am_fl2_hit1, am_fl2_int, am_fl2_ref, am_fl2_long, List.not_mem_nil, not_false_eq_true, ne_eq, Nat.reduceAdd, Nat.reduceEqDiff, Nat.zero_add, Nat.add_left_cancel_iff, List.set_cons_zero, List.set_cons_succ, List.length_cons, List.length_nil, Nat.reduceLT, am_ft_i, am_ft_r, am_ft_z, and_true, true_and, Option.toList_some, Option.toList_none, List.cons_append, List.nil_append, List.drop_succ_cons, List.drop_zero, iI_c, iI_b, iI_s, iI_n, iI_add, iI_sub, iI_mul, iI_neg, iI_nle, iI_ix, iI_eq0, iI_eq1, iI_lt0, iI_0lt, iI_le0, iI_0le, iI_eq, iI_lt, iI_le, iI_upd, iI_updZ, hO, hA, md_fs_len, md_f0, md_f1, md_f2, md_f3, md_f4, md_f5, md_f6, md_f7, md_f8, md_f9, md_f10, md_f11, md_f12, md_f13, md_f14, md_f15, md_f16, md_f17, md_f18, md_f19, md_f20, md_f21, md_f22, md_f23, md_f24, md_f25, md_f26, md_f27, md_f28, md_f29, md_f30, md_f31, md_f32, md_f33, md_f34, md_f35, md_s0, md_s1, md_s15, md_s16, md_s17, md_s23, md_s24, md_s31, md_t1, md_t2, md_t3, md_t4, md_t5, md_t6, md_t7, md_t8, md_t9, md_t10, md_t11, md_t12, md_t13, md_t14, md_t15, md_t16, md_t17, md_t18, md_t19, md_t20, md_t21, md_t22, md_t23, md_t24, md_t25, md_t26, md_t27, md_t28, md_l1, md_l2, md_l3, md_l4, md_l5, md_l6, md_l7, md_l8, md_l9, md_l10, md_l11, md_l12, md_l13, md_l14, md_l15, md_l16, md_l17, md_l18, md_l19, md_l20, md_l21, md_l22, md_l23, md_l24, md_l25, md_l26, md_l27, md_l28]
        repeat' (first | (refine And.intro (by omega) ?_) | split)
        all_goals (unfold sp_comes; (repeat' split) <;> first | rfl | (exfalso; omega))
      · refine am_go_of 44 [11, 26, 82] _ c_Md_comes_12 ?_
        simp (maxSteps := 2000000) (disch := omega) only [c_Md_comes_0, c_Md_comes_1, c_Md_comes_2, c_Md_comes_3, c_Md_comes_4, c_Md_comes_5, c_Md_comes_6, c_Md_comes_7, c_Md_comes_8, c_Md_comes_9, c_Md_comes_10, c_Md_comes_11, c_Md_comes_12, c_Md_comes_13, c_Md_comes_14, c_Md_comes_15, c_Md_comes_16, c_Md_comes_17, c_Md_comes_18, c_Md_comes_19, c_Md_comes_20, c_Md_comes_21, c_Md_comes_22, c_Md_comes_23, c_Md_comes_24, c_Md_comes_25, c_Md_comes_26, c_Md_comes_27, c_Md_comes_28, c_Md_comes_29, c_Md_comes_30, c_Md_comes_31, c_Md_comes_32, c_Md_comes_33, c_Md_comes_34, c_Md_comes_35, c_Md_comes_36, c_Md_comes_37, c_Md_comes_38, c_Md_comes_39, c_Md_comes_40, c_Md_comes_41, c_Md_comes_42, c_Md_comes_43, c_Md_comes_44, c_Md_comes_45, c_Md_comes_46, c_Md_comes_47, c_Md_comes_48, c_Md_comes_49, c_Md_comes_50, c_Md_comes_51, c_Md_comes_52, c_Md_comes_53, c_Md_comes_54, c_Md_comes_55, c_Md_comes_56, c_Md_comes_57, c_Md_comes_58, c_Md_comes_59, c_Md_comes_60, c_Md_comes_61, c_Md_comes_62, c_Md_comes_63, c_Md_comes_64, c_Md_comes_65, c_Md_comes_66, c_Md_comes_67, c_Md_comes_68, c_Md_comes_69, c_Md_comes_70, c_Md_comes_71, c_Md_comes_72, c_Md_comes_73, c_Md_comes_74, c_Md_comes_75, c_Md_comes_76, c_Md_comes_77, c_Md_comes_78, c_Md_comes_79, c_Md_comes_80, c_Md_comes_81, c_Md_comes_82, c_Md_comes_83, c_Md_comes_84, c_Md_comes_85, c_Md_comes_86, c_Md_comes_87, c_Md_comes_88, c_Md_comes_89, c_Md_comes_90, sx_aload_n, sx_bipush, sx_getfield, sx_goto, sx_iadd, sx_iaload, sx_iconst, sx_ifCond_eq, sx_ifCond_lt, sx_if_icmp_eq, sx_if_icmp_ge, sx_if_icmp_ne, sx_iload, sx_iload_n, sx_imul, sx_ireturn, sx_istore, sx_istore_n, sx_zreturn, am_W_s, am_W_0, am_mm_some, List.mem_cons, or_false, false_or, or_self, or_true, true_or, reduceIte, if_false, if_true, am_o_some, am_o_none, am_o_bad, am_o_good, am_ldi_hit, am_ldi_miss, am_lda_hit, am_lda_miss, am_ldl_hit, am_ldl_miss, am_inc_eq, am_inc_hit, am_inc_miss, am_ob_hit, am_fd_0, am_fd_s, am_ai_hit, am_ab_3, am_al_hit, am_aq_4, am_al0_hit, am_put_1, am_put_2, am_put_put, am_up_hit, am_up_miss, am_s1_eq, am_s2_eq, am_fl_nil, am_fl_hit, am_fl_int, am_fl_ref, am_fl_long, am_fl_longx, am_fl2_nil, am_fl2_hit, am_fl2_hit1, am_fl2_int, am_fl2_ref, am_fl2_long, List.not_mem_nil, not_false_eq_true, ne_eq, Nat.reduceAdd, Nat.reduceEqDiff, Nat.zero_add, Nat.add_left_cancel_iff, List.set_cons_zero, List.set_cons_succ, List.length_cons, List.length_nil, Nat.reduceLT, am_ft_i, am_ft_r, am_ft_z, and_true, true_and, Option.toList_some, Option.toList_none, List.cons_append, List.nil_append, List.drop_succ_cons, List.drop_zero, iI_c, iI_b, iI_s, iI_n, iI_add, iI_sub, iI_mul, iI_neg, iI_nle, iI_ix, iI_eq0, iI_eq1, iI_lt0, iI_0lt, iI_le0, iI_0le, iI_eq, iI_lt, iI_le, iI_upd, iI_updZ, hO, hA, e3, Int.not_le.mp e9, md_fs_len, md_f0, md_f1, md_f2, md_f3, md_f4, md_f5, md_f6, md_f7, md_f8, md_f9, md_f10, md_f11, md_f12, md_f13, md_f14, md_f15, md_f16, md_f17, md_f18, md_f19, md_f20, md_f21, md_f22, md_f23, md_f24, md_f25, md_f26, md_f27, md_f28, md_f29, md_f30, md_f31, md_f32, md_f33, md_f34, md_f35, md_s0, md_s1, md_s15, md_s16, md_s17, md_s23, md_s24, md_s31, md_t1, md_t2, md_t3, md_t4, md_t5, md_t6, md_t7, md_t8, md_t9, md_t10, md_t11, md_t12, md_t13, md_t14, md_t15, md_t16, md_t17, md_t18, md_t19, md_t20, md_t21, md_t22, md_t23, md_t24, md_t25, md_t26, md_t27, md_t28, md_l1, md_l2, md_l3, md_l4, md_l5, md_l6, md_l7, md_l8, md_l9, md_l10, md_l11, md_l12, md_l13, md_l14, md_l15, md_l16, md_l17, md_l18, md_l19, md_l20, md_l21, md_l22, md_l23, md_l24, md_l25, md_l26, md_l27, md_l28]
        refine ⟨by omega, by omega, by omega, ?_⟩
        split
        · unfold sp_comes
          (repeat' split) <;> first | rfl | (exfalso; omega)
        · have e6 := sp_asked_rg hr (b := sp_top (F 13) th) (k := F 13 (24 + sp_top (F 13) th)) (by omega) (by omega)
          refine am_go_call c_Md_comes_82 (by decide) (by decide) (by simp [am_can, am_kd, Value.category, hO]) ?_
          refine (ct_asked d (by omega) h' o I F H hr (sp_top (F 13) th) (F 13 (24 + sp_top (F 13) th)) (by omega) (by omega)).mono (fun r h' hr9 => ?_)
          obtain ⟨rfl, rfl⟩ := hr9
          refine am_go_of 60 [11, 26, 82] _ c_Md_comes_83 ?_
          simp (maxSteps := 2000000) (disch := omega) only [c_Md_comes_0, c_Md_comes_1, c_Md_comes_2, c_Md_comes_3, c_Md_comes_4, c_Md_comes_5, c_Md_comes_6, c_Md_comes_7, c_Md_comes_8, c_Md_comes_9, c_Md_comes_10, c_Md_comes_11, c_Md_comes_12, c_Md_comes_13, c_Md_comes_14, c_Md_comes_15, c_Md_comes_16, c_Md_comes_17, c_Md_comes_18, c_Md_comes_19, c_Md_comes_20, c_Md_comes_21, c_Md_comes_22, c_Md_comes_23, c_Md_comes_24, c_Md_comes_25, c_Md_comes_26, c_Md_comes_27, c_Md_comes_28, c_Md_comes_29, c_Md_comes_30, c_Md_comes_31, c_Md_comes_32, c_Md_comes_33, c_Md_comes_34, c_Md_comes_35, c_Md_comes_36, c_Md_comes_37, c_Md_comes_38, c_Md_comes_39, c_Md_comes_40, c_Md_comes_41, c_Md_comes_42, c_Md_comes_43, c_Md_comes_44, c_Md_comes_45, c_Md_comes_46, c_Md_comes_47, c_Md_comes_48, c_Md_comes_49, c_Md_comes_50, c_Md_comes_51, c_Md_comes_52, c_Md_comes_53, c_Md_comes_54, c_Md_comes_55, c_Md_comes_56, c_Md_comes_57, c_Md_comes_58, c_Md_comes_59, c_Md_comes_60, c_Md_comes_61, c_Md_comes_62, c_Md_comes_63, c_Md_comes_64, c_Md_comes_65, c_Md_comes_66, c_Md_comes_67, c_Md_comes_68, c_Md_comes_69, c_Md_comes_70, c_Md_comes_71, c_Md_comes_72, c_Md_comes_73, c_Md_comes_74, c_Md_comes_75, c_Md_comes_76, c_Md_comes_77, c_Md_comes_78, c_Md_comes_79, c_Md_comes_80, c_Md_comes_81, c_Md_comes_82, c_Md_comes_83, c_Md_comes_84, c_Md_comes_85, c_Md_comes_86, c_Md_comes_87, c_Md_comes_88, c_Md_comes_89, c_Md_comes_90, sx_aload_n, sx_bipush, sx_getfield, sx_goto, sx_iadd, sx_iaload, sx_iconst, sx_ifCond_eq, sx_ifCond_lt, sx_if_icmp_eq, sx_if_icmp_ge, sx_if_icmp_ne, sx_iload, sx_iload_n, sx_imul, sx_ireturn, sx_istore, sx_istore_n, sx_zreturn, am_W_s, am_W_0, am_mm_some, List.mem_cons, or_false, false_or, or_self, or_true, true_or, reduceIte, if_false, if_true, am_o_some, am_o_none, am_o_bad, am_o_good, am_ldi_hit, am_ldi_miss, am_lda_hit, am_lda_miss, am_ldl_hit, am_ldl_miss, am_inc_eq, am_inc_hit, am_inc_miss, am_ob_hit, am_fd_0, am_fd_s, am_ai_hit, am_ab_3, am_al_hit, am_aq_4, am_al0_hit, am_put_1, am_put_2, am_put_put, am_up_hit, am_up_miss, am_s1_eq, am_s2_eq, am_fl_nil, am_fl_hit, am_fl_int, am_fl_ref, am_fl_long, am_fl_longx, am_fl2_nil, am_fl2_hit, am_fl2_hit1, am_fl2_int, am_fl2_ref, am_fl2_long, List.not_mem_nil, not_false_eq_true, ne_eq, Nat.reduceAdd, Nat.reduceEqDiff, Nat.zero_add, Nat.add_left_cancel_iff, List.set_cons_zero, List.set_cons_succ, List.length_cons, List.length_nil, Nat.reduceLT, am_ft_i, am_ft_r, am_ft_z, and_true, true_and, Option.toList_some, Option.toList_none, List.cons_append, List.nil_append, List.drop_succ_cons, List.drop_zero, iI_c, iI_b, iI_s, iI_n, iI_add, iI_sub, iI_mul, iI_neg, iI_nle, iI_ix, iI_eq0, iI_eq1, iI_lt0, iI_0lt, iI_le0, iI_0le, iI_eq, iI_lt, iI_le, iI_upd, iI_updZ, hO, hA, md_fs_len, md_f0, md_f1, md_f2, md_f3, md_f4, md_f5, md_f6, md_f7, md_f8, md_f9, md_f10, md_f11, md_f12, md_f13, md_f14, md_f15, md_f16, md_f17, md_f18, md_f19, md_f20, md_f21, md_f22, md_f23, md_f24, md_f25, md_f26, md_f27, md_f28, md_f29, md_f30, md_f31, md_f32, md_f33, md_f34, md_f35, md_s0, md_s1, md_s15, md_s16, md_s17, md_s23, md_s24, md_s31, md_t1, md_t2, md_t3, md_t4, md_t5, md_t6, md_t7, md_t8, md_t9, md_t10, md_t11, md_t12, md_t13, md_t14, md_t15, md_t16, md_t17, md_t18, md_t19, md_t20, md_t21, md_t22, md_t23, md_t24, md_t25, md_t26, md_t27, md_t28, md_l1, md_l2, md_l3, md_l4, md_l5, md_l6, md_l7, md_l8, md_l9, md_l10, md_l11, md_l12, md_l13, md_l14, md_l15, md_l16, md_l17, md_l18, md_l19, md_l20, md_l21, md_l22, md_l23, md_l24, md_l25, md_l26, md_l27, md_l28]
          repeat' (first | (refine And.intro (by omega) ?_) | split)
          all_goals (unfold sp_comes; (repeat' split) <;> first | rfl | (exfalso; omega))
  · unfold sp_comes
    (repeat' split) <;> first | rfl | (exfalso; omega)
theorem sp_comes_rg {I : Nat → Int} {F : Nat → Int → Int} {s : Int → Int} (hr : md_rg I F) (hs : rs_rg s) (ha : rs_at F s) {h : Int} (hh : 0 ≤ h ∧ h < 3) : -1 ≤ sp_comes F s h ∧ sp_comes F s h ≤ 5 := by
  have e2 := sp_top_rg hs hh
  have e1 := hs.2.1 h hh
  have e4 := ha.2 h hh
  have e5 := hr.2.2.2.2.1 (6 + h) (by omega)
  unfold sp_comes
  split
  · decide
  split
  · rename_i h1 h2
    have e8 := hr.2.1 (sp_top s h) (by omega)
    have e7 := hs.1 (sp_top s h) (by omega)
    have e6 : 0 ≤ sp_nextIn F s h (sp_top s h) ∧ sp_nextIn F s h (sp_top s h) ≤ 6 := sp_nx_rg (by omega) 6 _ (by omega) (by omega)
    split
    · have := hr.2.2.2.1 (6 * sp_top s h + sp_nextIn F s h (sp_top s h)) (by omega)
      omega
    · decide
  split
  · split
    · decide
    · have e6 := sp_asked_rg hr (b := 6 + h) (k := s (39 + h)) (by omega) (by omega)
      split
      · decide
      · omega
  · have e7 := hs.1 (sp_top s h) (by omega)
    have e9 := hr.2.2.2.2.1 (sp_top s h) (by omega)
    have e8 := ha.1 (sp_top s h) (by omega)
    split
    · decide
    · have e6 := sp_asked_rg hr (b := sp_top s h) (k := s (24 + sp_top s h)) (by omega) (by omega)
      split
      · decide
      · omega
def sp_waits (F : Nat → Int → Int) (s : Int → Int) (h : Int) : Int := if sp_comes F s h ≠ -1 ∧ s (sp_comes F s h) = 1 ∧ s (6 + sp_comes F s h) ≠ h then sp_comes F s h else -1
theorem ct_waitsFor (d : Nat) (hd : 5 ≤ d) (h : am_H) (o : Nat) (I : Nat → Int) (F : Nat → Int → Int) (H : md_at h o I F) (hr : md_rg I F) (hs : rs_rg (F 13)) (ha : rs_at F (F 13)) (th : Int) (hh : 0 ≤ th ∧ th < 3) : am_Ct am_df am_MT d 122 [.ref o, .int (iI th)] h (fun r h' => r = some (.int (iI (sp_waits F (F 13) th))) ∧ h' = h) := by
  have H' := H
  obtain ⟨h0, hO, hA⟩ := H'
  have e2 := sp_comes_rg hr hs ha hh
  obtain ⟨d, rfl⟩ : ∃ e, d = e + 1 := ⟨d - 1, by omega⟩
  refine am_ct_of2 mt_Md_waitsFor (Nat.le_of_ble_eq_true rfl) ?_
  simp only [ar_nil, ar_int, ar_ref, ar_long, Nat.reduceAdd]
  refine am_go_of 60 [2] _ c_Md_waitsFor_0 ?_
  simp (maxSteps := 2000000) (disch := omega) only [c_Md_waitsFor_0, c_Md_waitsFor_1, c_Md_waitsFor_2, c_Md_waitsFor_3, c_Md_waitsFor_4, c_Md_waitsFor_5, c_Md_waitsFor_6, c_Md_waitsFor_7, c_Md_waitsFor_8, c_Md_waitsFor_9, c_Md_waitsFor_10, c_Md_waitsFor_11, c_Md_waitsFor_12, c_Md_waitsFor_13, c_Md_waitsFor_14, c_Md_waitsFor_15, c_Md_waitsFor_16, c_Md_waitsFor_17, c_Md_waitsFor_18, c_Md_waitsFor_19, c_Md_waitsFor_20, c_Md_waitsFor_21, c_Md_waitsFor_22, c_Md_waitsFor_23, c_Md_waitsFor_24, c_Md_waitsFor_25, c_Md_waitsFor_26, sx_aload_n, sx_bipush, sx_getfield, sx_goto, sx_iadd, sx_iaload, sx_iconst, sx_if_icmp_eq, sx_if_icmp_ne, sx_iload_n, sx_ireturn, sx_istore_n, sx_zreturn, am_W_s, am_W_0, am_mm_some, List.mem_cons, or_false, false_or, or_self, or_true, true_or, reduceIte, if_false, if_true, am_o_some, am_o_none, am_o_bad, am_o_good, am_ldi_hit, am_ldi_miss, am_lda_hit, am_lda_miss, am_ldl_hit, am_ldl_miss, am_inc_eq, am_inc_hit, am_inc_miss, am_ob_hit, am_fd_0, am_fd_s, am_ai_hit, am_ab_3, am_al_hit, am_aq_4, am_al0_hit, am_put_1, am_put_2, am_put_put, am_up_hit, am_up_miss, am_s1_eq, am_s2_eq, am_fl_nil, am_fl_hit, am_fl_int, am_fl_ref, am_fl_long, am_fl_longx, am_fl2_nil, am_fl2_hit, am_fl2_hit1, am_fl2_int, am_fl2_ref, am_fl2_long, List.not_mem_nil, not_false_eq_true, ne_eq, Nat.reduceAdd, Nat.reduceEqDiff, Nat.zero_add, Nat.add_left_cancel_iff, List.set_cons_zero, List.set_cons_succ, List.length_cons, List.length_nil, Nat.reduceLT, am_ft_i, am_ft_r, am_ft_z, and_true, true_and, Option.toList_some, Option.toList_none, List.cons_append, List.nil_append, List.drop_succ_cons, List.drop_zero, iI_c, iI_b, iI_s, iI_n, iI_add, iI_sub, iI_mul, iI_neg, iI_nle, iI_ix, iI_eq0, iI_eq1, iI_lt0, iI_0lt, iI_le0, iI_0le, iI_eq, iI_lt, iI_le, iI_upd, iI_updZ, hO, hA, md_fs_len, md_f0, md_f1, md_f2, md_f3, md_f4, md_f5, md_f6, md_f7, md_f8, md_f9, md_f10, md_f11, md_f12, md_f13, md_f14, md_f15, md_f16, md_f17, md_f18, md_f19, md_f20, md_f21, md_f22, md_f23, md_f24, md_f25, md_f26, md_f27, md_f28, md_f29, md_f30, md_f31, md_f32, md_f33, md_f34, md_f35, md_s0, md_s1, md_s15, md_s16, md_s17, md_s23, md_s24, md_s31, md_t1, md_t2, md_t3, md_t4, md_t5, md_t6, md_t7, md_t8, md_t9, md_t10, md_t11, md_t12, md_t13, md_t14, md_t15, md_t16, md_t17, md_t18, md_t19, md_t20, md_t21, md_t22, md_t23, md_t24, md_t25, md_t26, md_t27, md_t28, md_l1, md_l2, md_l3, md_l4, md_l5, md_l6, md_l7, md_l8, md_l9, md_l10, md_l11, md_l12, md_l13, md_l14, md_l15, md_l16, md_l17, md_l18, md_l19, md_l20, md_l21, md_l22, md_l23, md_l24, md_l25, md_l26, md_l27, md_l28]
  refine am_go_call c_Md_waitsFor_2 (by decide) (by decide) (by simp [am_can, am_kd, Value.category, hO]) ?_
  refine (ct_comes d (by omega) h o I F H hr hs ha th hh).mono (fun r h' hr9 => ?_)
  obtain ⟨rfl, rfl⟩ := hr9
  by_cases e3 : sp_comes F (F 13) th = -1
  · rw [e3]
    refine am_go_of 60 [2] _ c_Md_waitsFor_3 ?_
    simp (maxSteps := 2000000) (disch := omega) only [c_Md_waitsFor_0, c_Md_waitsFor_1, c_Md_waitsFor_2, c_Md_waitsFor_3, c_Md_waitsFor_4, c_Md_waitsFor_5, c_Md_waitsFor_6, c_Md_waitsFor_7, c_Md_waitsFor_8, c_Md_waitsFor_9, c_Md_waitsFor_10, c_Md_waitsFor_11, c_Md_waitsFor_12, c_Md_waitsFor_13, c_Md_waitsFor_14, c_Md_waitsFor_15, c_Md_waitsFor_16, c_Md_waitsFor_17, c_Md_waitsFor_18, c_Md_waitsFor_19, c_Md_waitsFor_20, c_Md_waitsFor_21, c_Md_waitsFor_22, c_Md_waitsFor_23, c_Md_waitsFor_24, c_Md_waitsFor_25, c_Md_waitsFor_26, sx_aload_n, sx_bipush, sx_getfield, sx_goto, sx_iadd, sx_iaload, sx_iconst, sx_if_icmp_eq, sx_if_icmp_ne, sx_iload_n, sx_ireturn, sx_istore_n, sx_zreturn, am_W_s, am_W_0, am_mm_some, List.mem_cons, or_false, false_or, or_self, or_true, true_or, reduceIte, if_false, if_true, am_o_some, am_o_none, am_o_bad, am_o_good, am_ldi_hit, am_ldi_miss, am_lda_hit, am_lda_miss, am_ldl_hit, am_ldl_miss, am_inc_eq, am_inc_hit, am_inc_miss, am_ob_hit, am_fd_0, am_fd_s, am_ai_hit, am_ab_3, am_al_hit, am_aq_4, am_al0_hit, am_put_1, am_put_2, am_put_put, am_up_hit, am_up_miss, am_s1_eq, am_s2_eq, am_fl_nil, am_fl_hit, am_fl_int, am_fl_ref, am_fl_long, am_fl_longx, am_fl2_nil, am_fl2_hit, am_fl2_hit1, am_fl2_int, am_fl2_ref, am_fl2_long, List.not_mem_nil, not_false_eq_true, ne_eq, Nat.reduceAdd, Nat.reduceEqDiff, Nat.zero_add, Nat.add_left_cancel_iff, List.set_cons_zero, List.set_cons_succ, List.length_cons, List.length_nil, Nat.reduceLT, am_ft_i, am_ft_r, am_ft_z, and_true, true_and, Option.toList_some, Option.toList_none, List.cons_append, List.nil_append, List.drop_succ_cons, List.drop_zero, iI_c, iI_b, iI_s, iI_n, iI_add, iI_sub, iI_mul, iI_neg, iI_nle, iI_ix, iI_eq0, iI_eq1, iI_lt0, iI_0lt, iI_le0, iI_0le, iI_eq, iI_lt, iI_le, iI_upd, iI_updZ, hO, hA, Int.reduceNeg, md_fs_len, md_f0, md_f1, md_f2, md_f3, md_f4, md_f5, md_f6, md_f7, md_f8, md_f9, md_f10, md_f11, md_f12, md_f13, md_f14, md_f15, md_f16, md_f17, md_f18, md_f19, md_f20, md_f21, md_f22, md_f23, md_f24, md_f25, md_f26, md_f27, md_f28, md_f29, md_f30, md_f31, md_f32, md_f33, md_f34, md_f35, md_s0, md_s1, md_s15, md_s16, md_s17, md_s23, md_s24, md_s31, md_t1, md_t2, md_t3, md_t4, md_t5, md_t6, md_t7, md_t8, md_t9, md_t10, md_t11, md_t12, md_t13, md_t14, md_t15, md_t16, md_t17, md_t18, md_t19, md_t20, md_t21, md_t22, md_t23, md_t24, md_t25, md_t26, md_t27, md_t28, md_l1, md_l2, md_l3, md_l4, md_l5, md_l6, md_l7, md_l8, md_l9, md_l10, md_l11, md_l12, md_l13, md_l14, md_l15, md_l16, md_l17, md_l18, md_l19, md_l20, md_l21, md_l22, md_l23, md_l24, md_l25, md_l26, md_l27, md_l28]
    unfold sp_waits
    (repeat' split) <;> first | rfl | (exfalso; omega)
  · have e7 := hs.1 (sp_comes F (F 13) th) (by omega)
    refine am_go_of 60 [2] _ c_Md_waitsFor_3 ?_
    simp (maxSteps := 2000000) (disch := omega) only [c_Md_waitsFor_0, c_Md_waitsFor_1, c_Md_waitsFor_2, c_Md_waitsFor_3, c_Md_waitsFor_4, c_Md_waitsFor_5, c_Md_waitsFor_6, c_Md_waitsFor_7, c_Md_waitsFor_8, c_Md_waitsFor_9, c_Md_waitsFor_10, c_Md_waitsFor_11, c_Md_waitsFor_12, c_Md_waitsFor_13, c_Md_waitsFor_14, c_Md_waitsFor_15, c_Md_waitsFor_16, c_Md_waitsFor_17, c_Md_waitsFor_18, c_Md_waitsFor_19, c_Md_waitsFor_20, c_Md_waitsFor_21, c_Md_waitsFor_22, c_Md_waitsFor_23, c_Md_waitsFor_24, c_Md_waitsFor_25, c_Md_waitsFor_26, sx_aload_n, sx_bipush, sx_getfield, sx_goto, sx_iadd, sx_iaload, sx_iconst, sx_if_icmp_eq, sx_if_icmp_ne, sx_iload_n, sx_ireturn, sx_istore_n, sx_zreturn, am_W_s, am_W_0, am_mm_some, List.mem_cons, or_false, false_or, or_self, or_true, true_or, reduceIte, if_false, if_true, am_o_some, am_o_none, am_o_bad, am_o_good, am_ldi_hit, am_ldi_miss, am_lda_hit, am_lda_miss, am_ldl_hit, am_ldl_miss, am_inc_eq, am_inc_hit, am_inc_miss, am_ob_hit, am_fd_0, am_fd_s, am_ai_hit, am_ab_3, am_al_hit, am_aq_4, am_al0_hit, am_put_1, am_put_2, am_put_put, am_up_hit, am_up_miss, am_s1_eq, am_s2_eq, am_fl_nil, am_fl_hit, am_fl_int, am_fl_ref, am_fl_long, am_fl_longx, am_fl2_nil, am_fl2_hit, am_fl2_hit1, am_fl2_int, am_fl2_ref, am_fl2_long, List.not_mem_nil, not_false_eq_true, ne_eq, Nat.reduceAdd, Nat.reduceEqDiff, Nat.zero_add, Nat.add_left_cancel_iff, List.set_cons_zero, List.set_cons_succ, List.length_cons, List.length_nil, Nat.reduceLT, am_ft_i, am_ft_r, am_ft_z, and_true, true_and, Option.toList_some, Option.toList_none, List.cons_append, List.nil_append, List.drop_succ_cons, List.drop_zero, iI_c, iI_b, iI_s, iI_n, iI_add, iI_sub, iI_mul, iI_neg, iI_nle, iI_ix, iI_eq0, iI_eq1, iI_lt0, iI_0lt, iI_le0, iI_0le, iI_eq, iI_lt, iI_le, iI_upd, iI_updZ, hO, hA, e3, Int.zero_add, md_fs_len, md_f0, md_f1, md_f2, md_f3, md_f4, md_f5, md_f6, md_f7, md_f8, md_f9, md_f10, md_f11, md_f12, md_f13, md_f14, md_f15, md_f16, md_f17, md_f18, md_f19, md_f20, md_f21, md_f22, md_f23, md_f24, md_f25, md_f26, md_f27, md_f28, md_f29, md_f30, md_f31, md_f32, md_f33, md_f34, md_f35, md_s0, md_s1, md_s15, md_s16, md_s17, md_s23, md_s24, md_s31, md_t1, md_t2, md_t3, md_t4, md_t5, md_t6, md_t7, md_t8, md_t9, md_t10, md_t11, md_t12, md_t13, md_t14, md_t15, md_t16, md_t17, md_t18, md_t19, md_t20, md_t21, md_t22, md_t23, md_t24, md_t25, md_t26, md_t27, md_t28, md_l1, md_l2, md_l3, md_l4, md_l5, md_l6, md_l7, md_l8, md_l9, md_l10, md_l11, md_l12, md_l13, md_l14, md_l15, md_l16, md_l17, md_l18, md_l19, md_l20, md_l21, md_l22, md_l23, md_l24, md_l25, md_l26, md_l27, md_l28]
    repeat' (first | (refine And.intro (by omega) ?_) | split)
    all_goals (unfold sp_waits; (repeat' split) <;> first | rfl | (exfalso; omega))
def sp_has (F : Nat → Int → Int) (s : Int → Int) (h : Int) : Int := if s (36 + h) = 0 ∧ sp_waits F s h = -1 then 1 else 0
theorem sp_waits_rg {I : Nat → Int} {F : Nat → Int → Int} {s : Int → Int} (hr : md_rg I F) (hs : rs_rg s) (ha : rs_at F s) {h : Int} (hh : 0 ≤ h ∧ h < 3) : -1 ≤ sp_waits F s h ∧ sp_waits F s h ≤ 5 := by
  have e2 := sp_comes_rg hr hs ha hh
  unfold sp_waits
  split
  · exact e2
  · decide
theorem ct_hasStep (d : Nat) (hd : 6 ≤ d) (h : am_H) (o : Nat) (I : Nat → Int) (F : Nat → Int → Int) (H : md_at h o I F) (hr : md_rg I F) (hs : rs_rg (F 13)) (ha : rs_at F (F 13)) (th : Int) (hh : 0 ≤ th ∧ th < 3) : am_Ct am_df am_MT d 121 [.ref o, .int (iI th)] h (fun r h' => r = some (.int (iI (sp_has F (F 13) th))) ∧ h' = h) := by
  have H' := H
  obtain ⟨h0, hO, hA⟩ := H'
  have e1 := hs.2.1 th hh
  have e2 := sp_waits_rg hr hs ha hh
  obtain ⟨d, rfl⟩ : ∃ e, d = e + 1 := ⟨d - 1, by omega⟩
  refine am_ct_of2 mt_Md_hasStep (Nat.le_of_ble_eq_true rfl) ?_
  simp only [ar_nil, ar_int, ar_ref, ar_long, Nat.reduceAdd]
  refine am_go_of 60 [9] _ c_Md_hasStep_0 ?_
  simp (maxSteps := 2000000) (disch := omega) only [c_Md_hasStep_0, c_Md_hasStep_1, c_Md_hasStep_2, c_Md_hasStep_3, c_Md_hasStep_4, c_Md_hasStep_5, c_Md_hasStep_6, c_Md_hasStep_7, c_Md_hasStep_8, c_Md_hasStep_9, c_Md_hasStep_10, c_Md_hasStep_11, c_Md_hasStep_12, c_Md_hasStep_13, c_Md_hasStep_14, c_Md_hasStep_15, sx_aload_n, sx_bipush, sx_getfield, sx_goto, sx_iadd, sx_iaload, sx_iconst, sx_ifCond_ne, sx_if_icmp_ne, sx_iload_n, sx_ireturn, sx_zreturn, am_W_s, am_W_0, am_mm_some, List.mem_cons, or_false, false_or, or_self, or_true, true_or, reduceIte, if_false, if_true, am_o_some, am_o_none, am_o_bad, am_o_good, am_ldi_hit, am_ldi_miss, am_lda_hit, am_lda_miss, am_ldl_hit, am_ldl_miss, am_inc_eq, am_inc_hit, am_inc_miss, am_ob_hit, am_fd_0, am_fd_s, am_ai_hit, am_ab_3, am_al_hit, am_aq_4, am_al0_hit, am_put_1, am_put_2, am_put_put, am_up_hit, am_up_miss, am_s1_eq, am_s2_eq, am_fl_nil, am_fl_hit, am_fl_int, am_fl_ref, am_fl_long, am_fl_longx, am_fl2_nil, am_fl2_hit, am_fl2_hit1, am_fl2_int, am_fl2_ref, am_fl2_long, List.not_mem_nil, not_false_eq_true, ne_eq, Nat.reduceAdd, Nat.reduceEqDiff, Nat.zero_add, Nat.add_left_cancel_iff, List.set_cons_zero, List.set_cons_succ, List.length_cons, List.length_nil, Nat.reduceLT, am_ft_i, am_ft_r, am_ft_z, and_true, true_and, Option.toList_some, Option.toList_none, List.cons_append, List.nil_append, List.drop_succ_cons, List.drop_zero, iI_c, iI_b, iI_s, iI_n, iI_add, iI_sub, iI_mul, iI_neg, iI_nle, iI_ix, iI_eq0, iI_eq1, iI_lt0, iI_0lt, iI_le0, iI_0le, iI_eq, iI_lt, iI_le, iI_upd, iI_updZ, hO, hA, md_fs_len, md_f0, md_f1, md_f2, md_f3, md_f4, md_f5, md_f6, md_f7, md_f8, md_f9, md_f10, md_f11, md_f12, md_f13, md_f14, md_f15, md_f16, md_f17, md_f18, md_f19, md_f20, md_f21, md_f22, md_f23, md_f24, md_f25, md_f26, md_f27, md_f28, md_f29, md_f30, md_f31, md_f32, md_f33, md_f34, md_f35, md_s0, md_s1, md_s15, md_s16, md_s17, md_s23, md_s24, md_s31, md_t1, md_t2, md_t3, md_t4, md_t5, md_t6, md_t7, md_t8, md_t9, md_t10, md_t11, md_t12, md_t13, md_t14, md_t15, md_t16, md_t17, md_t18, md_t19, md_t20, md_t21, md_t22, md_t23, md_t24, md_t25, md_t26, md_t27, md_t28, md_l1, md_l2, md_l3, md_l4, md_l5, md_l6, md_l7, md_l8, md_l9, md_l10, md_l11, md_l12, md_l13, md_l14, md_l15, md_l16, md_l17, md_l18, md_l19, md_l20, md_l21, md_l22, md_l23, md_l24, md_l25, md_l26, md_l27, md_l28]
  refine ⟨by omega, ?_⟩
  split
  · refine am_go_call c_Md_hasStep_9 (by decide) (by decide) (by simp [am_can, am_kd, Value.category, hO]) ?_
    refine (ct_waitsFor d (by omega) h o I F H hr hs ha th hh).mono (fun r h' hr9 => ?_)
    obtain ⟨rfl, rfl⟩ := hr9
    refine am_go_of 60 [9] _ c_Md_hasStep_10 ?_
    simp (maxSteps := 2000000) (disch := omega) only [c_Md_hasStep_0, c_Md_hasStep_1, c_Md_hasStep_2, c_Md_hasStep_3, c_Md_hasStep_4, c_Md_hasStep_5, c_Md_hasStep_6, c_Md_hasStep_7, c_Md_hasStep_8, c_Md_hasStep_9, c_Md_hasStep_10, c_Md_hasStep_11, c_Md_hasStep_12, c_Md_hasStep_13, c_Md_hasStep_14, c_Md_hasStep_15, sx_aload_n, sx_bipush, sx_getfield, sx_goto, sx_iadd, sx_iaload, sx_iconst, sx_ifCond_ne, sx_if_icmp_ne, sx_iload_n, sx_ireturn, sx_zreturn, am_W_s, am_W_0, am_mm_some, List.mem_cons, or_false, false_or, or_self, or_true, true_or, reduceIte, if_false, if_true, am_o_some, am_o_none, am_o_bad, am_o_good, am_ldi_hit, am_ldi_miss, am_lda_hit, am_lda_miss, am_ldl_hit, am_ldl_miss, am_inc_eq, am_inc_hit, am_inc_miss, am_ob_hit, am_fd_0, am_fd_s, am_ai_hit, am_ab_3, am_al_hit, am_aq_4, am_al0_hit, am_put_1, am_put_2, am_put_put, am_up_hit, am_up_miss, am_s1_eq, am_s2_eq, am_fl_nil, am_fl_hit, am_fl_int, am_fl_ref, am_fl_long, am_fl_longx, am_fl2_nil, am_fl2_hit, am_fl2_hit1, am_fl2_int, am_fl2_ref, am_fl2_long, List.not_mem_nil, not_false_eq_true, ne_eq, Nat.reduceAdd, Nat.reduceEqDiff, Nat.zero_add, Nat.add_left_cancel_iff, List.set_cons_zero, List.set_cons_succ, List.length_cons, List.length_nil, Nat.reduceLT, am_ft_i, am_ft_r, am_ft_z, and_true, true_and, Option.toList_some, Option.toList_none, List.cons_append, List.nil_append, List.drop_succ_cons, List.drop_zero, iI_c, iI_b, iI_s, iI_n, iI_add, iI_sub, iI_mul, iI_neg, iI_nle, iI_ix, iI_eq0, iI_eq1, iI_lt0, iI_0lt, iI_le0, iI_0le, iI_eq, iI_lt, iI_le, iI_upd, iI_updZ, hO, hA, md_fs_len, md_f0, md_f1, md_f2, md_f3, md_f4, md_f5, md_f6, md_f7, md_f8, md_f9, md_f10, md_f11, md_f12, md_f13, md_f14, md_f15, md_f16, md_f17, md_f18, md_f19, md_f20, md_f21, md_f22, md_f23, md_f24, md_f25, md_f26, md_f27, md_f28, md_f29, md_f30, md_f31, md_f32, md_f33, md_f34, md_f35, md_s0, md_s1, md_s15, md_s16, md_s17, md_s23, md_s24, md_s31, md_t1, md_t2, md_t3, md_t4, md_t5, md_t6, md_t7, md_t8, md_t9, md_t10, md_t11, md_t12, md_t13, md_t14, md_t15, md_t16, md_t17, md_t18, md_t19, md_t20, md_t21, md_t22, md_t23, md_t24, md_t25, md_t26, md_t27, md_t28, md_l1, md_l2, md_l3, md_l4, md_l5, md_l6, md_l7, md_l8, md_l9, md_l10, md_l11, md_l12, md_l13, md_l14, md_l15, md_l16, md_l17, md_l18, md_l19, md_l20, md_l21, md_l22, md_l23, md_l24, md_l25, md_l26, md_l27, md_l28]
    repeat' (first | (refine And.intro (by omega) ?_) | split)
    all_goals (unfold sp_has; (repeat' split) <;> first | rfl | (exfalso; omega))
  · unfold sp_has
    (repeat' split) <;> first | rfl | (exfalso; omega)
def sp_end (F : Nat → Int → Int) (s : Int → Int) (h : Int) : Int := if s (36 + h) ≠ 0 then s (36 + h) else if sp_waits F s h ≠ -1 then 1 else 0
theorem ct_endOf (d : Nat) (hd : 6 ≤ d) (h : am_H) (o : Nat) (I : Nat → Int) (F : Nat → Int → Int) (H : md_at h o I F) (hr : md_rg I F) (hs : rs_rg (F 13)) (ha : rs_at F (F 13)) (th : Int) (hh : 0 ≤ th ∧ th < 3) : am_Ct am_df am_MT d 144 [.ref o, .int (iI th)] h (fun r h' => r = some (.int (iI (sp_end F (F 13) th))) ∧ h' = h) := by
  have H' := H
  obtain ⟨h0, hO, hA⟩ := H'
  have e1 := hs.2.1 th hh
  have e2 := sp_waits_rg hr hs ha hh
  obtain ⟨d, rfl⟩ : ∃ e, d = e + 1 := ⟨d - 1, by omega⟩
  refine am_ct_of2 mt_Md_endOf (Nat.le_of_ble_eq_true rfl) ?_
  simp only [ar_nil, ar_int, ar_ref, ar_long, Nat.reduceAdd]
  refine am_go_of 60 [16] _ c_Md_endOf_0 ?_
  simp (maxSteps := 2000000) (disch := omega) only [c_Md_endOf_0, c_Md_endOf_1, c_Md_endOf_2, c_Md_endOf_3, c_Md_endOf_4, c_Md_endOf_5, c_Md_endOf_6, c_Md_endOf_7, c_Md_endOf_8, c_Md_endOf_9, c_Md_endOf_10, c_Md_endOf_11, c_Md_endOf_12, c_Md_endOf_13, c_Md_endOf_14, c_Md_endOf_15, c_Md_endOf_16, c_Md_endOf_17, c_Md_endOf_18, c_Md_endOf_19, c_Md_endOf_20, c_Md_endOf_21, c_Md_endOf_22, sx_aload_n, sx_bipush, sx_getfield, sx_goto, sx_iadd, sx_iaload, sx_iconst, sx_ifCond_eq, sx_if_icmp_eq, sx_iload_n, sx_ireturn, sx_zreturn, am_W_s, am_W_0, am_mm_some, List.mem_cons, or_false, false_or, or_self, or_true, true_or, reduceIte, if_false, if_true, am_o_some, am_o_none, am_o_bad, am_o_good, am_ldi_hit, am_ldi_miss, am_lda_hit, am_lda_miss, am_ldl_hit, am_ldl_miss, am_inc_eq, am_inc_hit, am_inc_miss, am_ob_hit, am_fd_0, am_fd_s, am_ai_hit, am_ab_3, am_al_hit, am_aq_4, am_al0_hit, am_put_1, am_put_2, am_put_put, am_up_hit, am_up_miss, am_s1_eq, am_s2_eq, am_fl_nil, am_fl_hit, am_fl_int, am_fl_ref, am_fl_long, am_fl_longx, am_fl2_nil, am_fl2_hit, am_fl2_hit1, am_fl2_int, am_fl2_ref, am_fl2_long, List.not_mem_nil, not_false_eq_true, ne_eq, Nat.reduceAdd, Nat.reduceEqDiff, Nat.zero_add, Nat.add_left_cancel_iff, List.set_cons_zero, List.set_cons_succ, List.length_cons, List.length_nil, Nat.reduceLT, am_ft_i, am_ft_r, am_ft_z, and_true, true_and, Option.toList_some, Option.toList_none, List.cons_append, List.nil_append, List.drop_succ_cons, List.drop_zero, iI_c, iI_b, iI_s, iI_n, iI_add, iI_sub, iI_mul, iI_neg, iI_nle, iI_ix, iI_eq0, iI_eq1, iI_lt0, iI_0lt, iI_le0, iI_0le, iI_eq, iI_lt, iI_le, iI_upd, iI_updZ, hO, hA, md_fs_len, md_f0, md_f1, md_f2, md_f3, md_f4, md_f5, md_f6, md_f7, md_f8, md_f9, md_f10, md_f11, md_f12, md_f13, md_f14, md_f15, md_f16, md_f17, md_f18, md_f19, md_f20, md_f21, md_f22, md_f23, md_f24, md_f25, md_f26, md_f27, md_f28, md_f29, md_f30, md_f31, md_f32, md_f33, md_f34, md_f35, md_s0, md_s1, md_s15, md_s16, md_s17, md_s23, md_s24, md_s31, md_t1, md_t2, md_t3, md_t4, md_t5, md_t6, md_t7, md_t8, md_t9, md_t10, md_t11, md_t12, md_t13, md_t14, md_t15, md_t16, md_t17, md_t18, md_t19, md_t20, md_t21, md_t22, md_t23, md_t24, md_t25, md_t26, md_t27, md_t28, md_l1, md_l2, md_l3, md_l4, md_l5, md_l6, md_l7, md_l8, md_l9, md_l10, md_l11, md_l12, md_l13, md_l14, md_l15, md_l16, md_l17, md_l18, md_l19, md_l20, md_l21, md_l22, md_l23, md_l24, md_l25, md_l26, md_l27, md_l28]
  refine ⟨by omega, ?_⟩
  split
  · refine am_go_call c_Md_endOf_16 (by decide) (by decide) (by simp [am_can, am_kd, Value.category, hO]) ?_
    refine (ct_waitsFor d (by omega) h o I F H hr hs ha th hh).mono (fun r h' hr9 => ?_)
    obtain ⟨rfl, rfl⟩ := hr9
    refine am_go_of 60 [16] _ c_Md_endOf_17 ?_
    simp (maxSteps := 2000000) (disch := omega) only [c_Md_endOf_0, c_Md_endOf_1, c_Md_endOf_2, c_Md_endOf_3, c_Md_endOf_4, c_Md_endOf_5, c_Md_endOf_6, c_Md_endOf_7, c_Md_endOf_8, c_Md_endOf_9, c_Md_endOf_10, c_Md_endOf_11, c_Md_endOf_12, c_Md_endOf_13, c_Md_endOf_14, c_Md_endOf_15, c_Md_endOf_16, c_Md_endOf_17, c_Md_endOf_18, c_Md_endOf_19, c_Md_endOf_20, c_Md_endOf_21, c_Md_endOf_22, sx_aload_n, sx_bipush, sx_getfield, sx_goto, sx_iadd, sx_iaload, sx_iconst, sx_ifCond_eq, sx_if_icmp_eq, sx_iload_n, sx_ireturn, sx_zreturn, am_W_s, am_W_0, am_mm_some, List.mem_cons, or_false, false_or, or_self, or_true, true_or, reduceIte, if_false, if_true, am_o_some, am_o_none, am_o_bad, am_o_good, am_ldi_hit, am_ldi_miss, am_lda_hit, am_lda_miss, am_ldl_hit, am_ldl_miss, am_inc_eq, am_inc_hit, am_inc_miss, am_ob_hit, am_fd_0, am_fd_s, am_ai_hit, am_ab_3, am_al_hit, am_aq_4, am_al0_hit, am_put_1, am_put_2, am_put_put, am_up_hit, am_up_miss, am_s1_eq, am_s2_eq, am_fl_nil, am_fl_hit, am_fl_int, am_fl_ref, am_fl_long, am_fl_longx, am_fl2_nil, am_fl2_hit, am_fl2_hit1, am_fl2_int, am_fl2_ref, am_fl2_long, List.not_mem_nil, not_false_eq_true, ne_eq, Nat.reduceAdd, Nat.reduceEqDiff, Nat.zero_add, Nat.add_left_cancel_iff, List.set_cons_zero, List.set_cons_succ, List.length_cons, List.length_nil, Nat.reduceLT, am_ft_i, am_ft_r, am_ft_z, and_true, true_and, Option.toList_some, Option.toList_none, List.cons_append, List.nil_append, List.drop_succ_cons, List.drop_zero, iI_c, iI_b, iI_s, iI_n, iI_add, iI_sub, iI_mul, iI_neg, iI_nle, iI_ix, iI_eq0, iI_eq1, iI_lt0, iI_0lt, iI_le0, iI_0le, iI_eq, iI_lt, iI_le, iI_upd, iI_updZ, hO, hA, md_fs_len, md_f0, md_f1, md_f2, md_f3, md_f4, md_f5, md_f6, md_f7, md_f8, md_f9, md_f10, md_f11, md_f12, md_f13, md_f14, md_f15, md_f16, md_f17, md_f18, md_f19, md_f20, md_f21, md_f22, md_f23, md_f24, md_f25, md_f26, md_f27, md_f28, md_f29, md_f30, md_f31, md_f32, md_f33, md_f34, md_f35, md_s0, md_s1, md_s15, md_s16, md_s17, md_s23, md_s24, md_s31, md_t1, md_t2, md_t3, md_t4, md_t5, md_t6, md_t7, md_t8, md_t9, md_t10, md_t11, md_t12, md_t13, md_t14, md_t15, md_t16, md_t17, md_t18, md_t19, md_t20, md_t21, md_t22, md_t23, md_t24, md_t25, md_t26, md_t27, md_t28, md_l1, md_l2, md_l3, md_l4, md_l5, md_l6, md_l7, md_l8, md_l9, md_l10, md_l11, md_l12, md_l13, md_l14, md_l15, md_l16, md_l17, md_l18, md_l19, md_l20, md_l21, md_l22, md_l23, md_l24, md_l25, md_l26, md_l27, md_l28]
    repeat' (first | (refine And.intro (by omega) ?_) | split)
    all_goals (unfold sp_end; (repeat' split) <;> first | rfl | (exfalso; omega))
  · repeat' (first | (refine And.intro (by omega) ?_) | split)
    all_goals (unfold sp_end; (repeat' split) <;> first | rfl | (exfalso; omega))
